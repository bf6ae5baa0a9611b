/-! its instructions -/
theorem dX12_init_0 : decode cX12_init 0 = .ok (.aload_n 0, 1) := by decide +kernel
theorem dX12_init_1 : decode cX12_init 1 = .ok (.invokespecial 1, 3) := by decide +kernel
theorem dX12_init_4 : decode cX12_init 4 = .ok (.aload_n 0, 1) := by decide +kernel
theorem dX12_init_5 : decode cX12_init 5 = .ok (.bipush 7, 2) := by decide +kernel
theorem dX12_init_7 : decode cX12_init 7 = .ok (.newarray .int, 2) := by decide +kernel
theorem dX12_init_9 : decode cX12_init 9 = .ok (.putfield 7, 3) := by decide +kernel
theorem dX12_init_12 : decode cX12_init 12 = .ok (.aload_n 0, 1) := by decide +kernel
theorem dX12_init_13 : decode cX12_init 13 = .ok (.sipush 5450, 3) := by decide +kernel
theorem dX12_init_16 : decode cX12_init 16 = .ok (.newarray .int, 2) := by decide +kernel
theorem dX12_init_18 : decode cX12_init 18 = .ok (.putfield 13, 3) := by decide +kernel
theorem dX12_init_21 : decode cX12_init 21 = .ok (.aload_n 0, 1) := by decide +kernel
theorem dX12_init_22 : decode cX12_init 22 = .ok (.sipush 10900, 3) := by decide +kernel
theorem dX12_init_25 : decode cX12_init 25 = .ok (.newarray .int, 2) := by decide +kernel
theorem dX12_init_27 : decode cX12_init 27 = .ok (.putfield 16, 3) := by decide +kernel
theorem dX12_init_30 : decode cX12_init 30 = .ok (.aload_n 0, 1) := by decide +kernel
theorem dX12_init_31 : decode cX12_init 31 = .ok (.iconst 2, 1) := by decide +kernel
theorem dX12_init_32 : decode cX12_init 32 = .ok (.newarray .boolean, 2) := by decide +kernel
theorem dX12_init_34 : decode cX12_init 34 = .ok (.putfield 19, 3) := by decide +kernel
theorem dX12_init_37 : decode cX12_init 37 = .ok (.aload_n 0, 1) := by decide +kernel
theorem dX12_init_38 : decode cX12_init 38 = .ok (.sipush 594, 3) := by decide +kernel
theorem dX12_init_41 : decode cX12_init 41 = .ok (.newarray .int, 2) := by decide +kernel
theorem dX12_init_43 : decode cX12_init 43 = .ok (.putfield 23, 3) := by decide +kernel
theorem dX12_init_46 : decode cX12_init 46 = .ok (.aload_n 0, 1) := by decide +kernel
theorem dX12_init_47 : decode cX12_init 47 = .ok (.bipush 16, 2) := by decide +kernel
theorem dX12_init_49 : decode cX12_init 49 = .ok (.newarray .int, 2) := by decide +kernel
theorem dX12_init_51 : decode cX12_init 51 = .ok (.putfield 26, 3) := by decide +kernel
theorem dX12_init_54 : decode cX12_init 54 = .ok (.aload_n 0, 1) := by decide +kernel
theorem dX12_init_55 : decode cX12_init 55 = .ok (.sipush 528, 3) := by decide +kernel
theorem dX12_init_58 : decode cX12_init 58 = .ok (.newarray .int, 2) := by decide +kernel
theorem dX12_init_60 : decode cX12_init 60 = .ok (.putfield 29, 3) := by decide +kernel
theorem dX12_init_63 : decode cX12_init 63 = .ok (.aload_n 0, 1) := by decide +kernel
theorem dX12_init_64 : decode cX12_init 64 = .ok (.bipush 16, 2) := by decide +kernel
theorem dX12_init_66 : decode cX12_init 66 = .ok (.newarray .int, 2) := by decide +kernel
theorem dX12_init_68 : decode cX12_init 68 = .ok (.putfield 32, 3) := by decide +kernel
theorem dX12_init_71 : decode cX12_init 71 = .ok (.aload_n 0, 1) := by decide +kernel
theorem dX12_init_72 : decode cX12_init 72 = .ok (.sipush 400, 3) := by decide +kernel
theorem dX12_init_75 : decode cX12_init 75 = .ok (.newarray .int, 2) := by decide +kernel
theorem dX12_init_77 : decode cX12_init 77 = .ok (.putfield 35, 3) := by decide +kernel
theorem dX12_init_80 : decode cX12_init 80 = .ok (.aload_n 0, 1) := by decide +kernel
theorem dX12_init_81 : decode cX12_init 81 = .ok (.iconst (-1), 1) := by decide +kernel
theorem dX12_init_82 : decode cX12_init 82 = .ok (.putfield 38, 3) := by decide +kernel
theorem dX12_init_85 : decode cX12_init 85 = .ok (.aload_n 0, 1) := by decide +kernel
theorem dX12_init_86 : decode cX12_init 86 = .ok (.bipush 96, 2) := by decide +kernel
theorem dX12_init_88 : decode cX12_init 88 = .ok (.newarray .int, 2) := by decide +kernel
theorem dX12_init_90 : decode cX12_init 90 = .ok (.putfield 42, 3) := by decide +kernel
theorem dX12_init_93 : decode cX12_init 93 = .ok (.aload_n 0, 1) := by decide +kernel
theorem dX12_init_94 : decode cX12_init 94 = .ok (.sipush 400, 3) := by decide +kernel
theorem dX12_init_97 : decode cX12_init 97 = .ok (.newarray .int, 2) := by decide +kernel
theorem dX12_init_99 : decode cX12_init 99 = .ok (.putfield 45, 3) := by decide +kernel
theorem dX12_init_102 : decode cX12_init 102 = .ok (.aload_n 0, 1) := by decide +kernel
theorem dX12_init_103 : decode cX12_init 103 = .ok (.sipush 400, 3) := by decide +kernel
theorem dX12_init_106 : decode cX12_init 106 = .ok (.newarray .int, 2) := by decide +kernel
theorem dX12_init_108 : decode cX12_init 108 = .ok (.putfield 48, 3) := by decide +kernel
theorem dX12_init_111 : decode cX12_init 111 = .ok (.aload_n 0, 1) := by decide +kernel
theorem dX12_init_112 : decode cX12_init 112 = .ok (.sipush 400, 3) := by decide +kernel
theorem dX12_init_115 : decode cX12_init 115 = .ok (.newarray .int, 2) := by decide +kernel
theorem dX12_init_117 : decode cX12_init 117 = .ok (.putfield 51, 3) := by decide +kernel
theorem dX12_init_120 : decode cX12_init 120 = .ok (.aload_n 0, 1) := by decide +kernel
theorem dX12_init_121 : decode cX12_init 121 = .ok (.sipush 400, 3) := by decide +kernel
theorem dX12_init_124 : decode cX12_init 124 = .ok (.newarray .int, 2) := by decide +kernel
theorem dX12_init_126 : decode cX12_init 126 = .ok (.putfield 54, 3) := by decide +kernel
theorem dX12_init_129 : decode cX12_init 129 = .ok (.aload_n 0, 1) := by decide +kernel
theorem dX12_init_130 : decode cX12_init 130 = .ok (.bipush 8, 2) := by decide +kernel
theorem dX12_init_132 : decode cX12_init 132 = .ok (.newarray .long, 2) := by decide +kernel
theorem dX12_init_134 : decode cX12_init 134 = .ok (.dup, 1) := by decide +kernel
theorem dX12_init_135 : decode cX12_init 135 = .ok (.iconst 0, 1) := by decide +kernel
theorem dX12_init_136 : decode cX12_init 136 = .ok (.ldc2_w 57, 3) := by decide +kernel
theorem dX12_init_139 : decode cX12_init 139 = .ok (.lastore, 1) := by decide +kernel
theorem dX12_init_140 : decode cX12_init 140 = .ok (.dup, 1) := by decide +kernel
theorem dX12_init_141 : decode cX12_init 141 = .ok (.iconst 1, 1) := by decide +kernel
theorem dX12_init_142 : decode cX12_init 142 = .ok (.ldc2_w 59, 3) := by decide +kernel
theorem dX12_init_145 : decode cX12_init 145 = .ok (.lastore, 1) := by decide +kernel
theorem dX12_init_146 : decode cX12_init 146 = .ok (.dup, 1) := by decide +kernel
theorem dX12_init_147 : decode cX12_init 147 = .ok (.iconst 2, 1) := by decide +kernel
theorem dX12_init_148 : decode cX12_init 148 = .ok (.ldc2_w 61, 3) := by decide +kernel
theorem dX12_init_151 : decode cX12_init 151 = .ok (.lastore, 1) := by decide +kernel
theorem dX12_init_152 : decode cX12_init 152 = .ok (.dup, 1) := by decide +kernel
theorem dX12_init_153 : decode cX12_init 153 = .ok (.iconst 3, 1) := by decide +kernel
theorem dX12_init_154 : decode cX12_init 154 = .ok (.ldc2_w 63, 3) := by decide +kernel
theorem dX12_init_157 : decode cX12_init 157 = .ok (.lastore, 1) := by decide +kernel
theorem dX12_init_158 : decode cX12_init 158 = .ok (.dup, 1) := by decide +kernel
theorem dX12_init_159 : decode cX12_init 159 = .ok (.iconst 4, 1) := by decide +kernel
theorem dX12_init_160 : decode cX12_init 160 = .ok (.ldc2_w 65, 3) := by decide +kernel
theorem dX12_init_163 : decode cX12_init 163 = .ok (.lastore, 1) := by decide +kernel
theorem dX12_init_164 : decode cX12_init 164 = .ok (.dup, 1) := by decide +kernel
theorem dX12_init_165 : decode cX12_init 165 = .ok (.iconst 5, 1) := by decide +kernel
theorem dX12_init_166 : decode cX12_init 166 = .ok (.ldc2_w 67, 3) := by decide +kernel
theorem dX12_init_169 : decode cX12_init 169 = .ok (.lastore, 1) := by decide +kernel
theorem dX12_init_170 : decode cX12_init 170 = .ok (.dup, 1) := by decide +kernel
theorem dX12_init_171 : decode cX12_init 171 = .ok (.bipush 6, 2) := by decide +kernel
theorem dX12_init_173 : decode cX12_init 173 = .ok (.ldc2_w 69, 3) := by decide +kernel
theorem dX12_init_176 : decode cX12_init 176 = .ok (.lastore, 1) := by decide +kernel
theorem dX12_init_177 : decode cX12_init 177 = .ok (.dup, 1) := by decide +kernel
theorem dX12_init_178 : decode cX12_init 178 = .ok (.bipush 7, 2) := by decide +kernel
theorem dX12_init_180 : decode cX12_init 180 = .ok (.ldc2_w 71, 3) := by decide +kernel
theorem dX12_init_183 : decode cX12_init 183 = .ok (.lastore, 1) := by decide +kernel
theorem dX12_init_184 : decode cX12_init 184 = .ok (.putfield 73, 3) := by decide +kernel
theorem dX12_init_187 : decode cX12_init 187 = .ok (.aload_n 0, 1) := by decide +kernel
theorem dX12_init_188 : decode cX12_init 188 = .ok (.bipush 7, 2) := by decide +kernel
theorem dX12_init_190 : decode cX12_init 190 = .ok (.newarray .long, 2) := by decide +kernel
theorem dX12_init_192 : decode cX12_init 192 = .ok (.dup, 1) := by decide +kernel
theorem dX12_init_193 : decode cX12_init 193 = .ok (.iconst 0, 1) := by decide +kernel
theorem dX12_init_194 : decode cX12_init 194 = .ok (.ldc2_w 69, 3) := by decide +kernel
theorem dX12_init_197 : decode cX12_init 197 = .ok (.lastore, 1) := by decide +kernel
theorem dX12_init_198 : decode cX12_init 198 = .ok (.dup, 1) := by decide +kernel
theorem dX12_init_199 : decode cX12_init 199 = .ok (.iconst 1, 1) := by decide +kernel
theorem dX12_init_200 : decode cX12_init 200 = .ok (.ldc2_w 77, 3) := by decide +kernel
theorem dX12_init_203 : decode cX12_init 203 = .ok (.lastore, 1) := by decide +kernel
theorem dX12_init_204 : decode cX12_init 204 = .ok (.dup, 1) := by decide +kernel
theorem dX12_init_205 : decode cX12_init 205 = .ok (.iconst 2, 1) := by decide +kernel
theorem dX12_init_206 : decode cX12_init 206 = .ok (.ldc2_w 79, 3) := by decide +kernel
theorem dX12_init_209 : decode cX12_init 209 = .ok (.lastore, 1) := by decide +kernel
theorem dX12_init_210 : decode cX12_init 210 = .ok (.dup, 1) := by decide +kernel
theorem dX12_init_211 : decode cX12_init 211 = .ok (.iconst 3, 1) := by decide +kernel
theorem dX12_init_212 : decode cX12_init 212 = .ok (.ldc2_w 81, 3) := by decide +kernel
theorem dX12_init_215 : decode cX12_init 215 = .ok (.lastore, 1) := by decide +kernel
theorem dX12_init_216 : decode cX12_init 216 = .ok (.dup, 1) := by decide +kernel
theorem dX12_init_217 : decode cX12_init 217 = .ok (.iconst 4, 1) := by decide +kernel
theorem dX12_init_218 : decode cX12_init 218 = .ok (.ldc2_w 59, 3) := by decide +kernel
theorem dX12_init_221 : decode cX12_init 221 = .ok (.lastore, 1) := by decide +kernel
theorem dX12_init_222 : decode cX12_init 222 = .ok (.dup, 1) := by decide +kernel
theorem dX12_init_223 : decode cX12_init 223 = .ok (.iconst 5, 1) := by decide +kernel
theorem dX12_init_224 : decode cX12_init 224 = .ok (.ldc2_w 65, 3) := by decide +kernel
theorem dX12_init_227 : decode cX12_init 227 = .ok (.lastore, 1) := by decide +kernel
theorem dX12_init_228 : decode cX12_init 228 = .ok (.dup, 1) := by decide +kernel
theorem dX12_init_229 : decode cX12_init 229 = .ok (.bipush 6, 2) := by decide +kernel
theorem dX12_init_231 : decode cX12_init 231 = .ok (.ldc2_w 83, 3) := by decide +kernel
theorem dX12_init_234 : decode cX12_init 234 = .ok (.lastore, 1) := by decide +kernel
theorem dX12_init_235 : decode cX12_init 235 = .ok (.putfield 85, 3) := by decide +kernel
theorem dX12_init_238 : decode cX12_init 238 = .ok (.aload_n 0, 1) := by decide +kernel
theorem dX12_init_239 : decode cX12_init 239 = .ok (.iconst 4, 1) := by decide +kernel
theorem dX12_init_240 : decode cX12_init 240 = .ok (.newarray .long, 2) := by decide +kernel
theorem dX12_init_242 : decode cX12_init 242 = .ok (.dup, 1) := by decide +kernel
theorem dX12_init_243 : decode cX12_init 243 = .ok (.iconst 0, 1) := by decide +kernel
theorem dX12_init_244 : decode cX12_init 244 = .ok (.ldc2_w 88, 3) := by decide +kernel
theorem dX12_init_247 : decode cX12_init 247 = .ok (.lastore, 1) := by decide +kernel
theorem dX12_init_248 : decode cX12_init 248 = .ok (.dup, 1) := by decide +kernel
theorem dX12_init_249 : decode cX12_init 249 = .ok (.iconst 1, 1) := by decide +kernel
theorem dX12_init_250 : decode cX12_init 250 = .ok (.ldc2_w 90, 3) := by decide +kernel
theorem dX12_init_253 : decode cX12_init 253 = .ok (.lastore, 1) := by decide +kernel
theorem dX12_init_254 : decode cX12_init 254 = .ok (.dup, 1) := by decide +kernel
theorem dX12_init_255 : decode cX12_init 255 = .ok (.iconst 2, 1) := by decide +kernel
theorem dX12_init_256 : decode cX12_init 256 = .ok (.ldc2_w 92, 3) := by decide +kernel
theorem dX12_init_259 : decode cX12_init 259 = .ok (.lastore, 1) := by decide +kernel
theorem dX12_init_260 : decode cX12_init 260 = .ok (.dup, 1) := by decide +kernel
theorem dX12_init_261 : decode cX12_init 261 = .ok (.iconst 3, 1) := by decide +kernel
theorem dX12_init_262 : decode cX12_init 262 = .ok (.ldc2_w 94, 3) := by decide +kernel
theorem dX12_init_265 : decode cX12_init 265 = .ok (.lastore, 1) := by decide +kernel
theorem dX12_init_266 : decode cX12_init 266 = .ok (.putfield 96, 3) := by decide +kernel
theorem dX12_init_269 : decode cX12_init 269 = .ok (.aload_n 0, 1) := by decide +kernel
theorem dX12_init_270 : decode cX12_init 270 = .ok (.bipush 13, 2) := by decide +kernel
theorem dX12_init_272 : decode cX12_init 272 = .ok (.newarray .long, 2) := by decide +kernel
theorem dX12_init_274 : decode cX12_init 274 = .ok (.putfield 99, 3) := by decide +kernel
theorem dX12_init_277 : decode cX12_init 277 = .ok (.aload_n 0, 1) := by decide +kernel
theorem dX12_init_278 : decode cX12_init 278 = .ok (.bipush 13, 2) := by decide +kernel
theorem dX12_init_280 : decode cX12_init 280 = .ok (.newarray .long, 2) := by decide +kernel
theorem dX12_init_282 : decode cX12_init 282 = .ok (.putfield 102, 3) := by decide +kernel
theorem dX12_init_285 : decode cX12_init 285 = .ok (.aload_n 0, 1) := by decide +kernel
theorem dX12_init_286 : decode cX12_init 286 = .ok (.sipush 400, 3) := by decide +kernel
theorem dX12_init_289 : decode cX12_init 289 = .ok (.newarray .long, 2) := by decide +kernel
theorem dX12_init_291 : decode cX12_init 291 = .ok (.putfield 105, 3) := by decide +kernel
theorem dX12_init_294 : decode cX12_init 294 = .ok (.aload_n 0, 1) := by decide +kernel
theorem dX12_init_295 : decode cX12_init 295 = .ok (.bipush 6, 2) := by decide +kernel
theorem dX12_init_297 : decode cX12_init 297 = .ok (.newarray .int, 2) := by decide +kernel
theorem dX12_init_299 : decode cX12_init 299 = .ok (.putfield 108, 3) := by decide +kernel
theorem dX12_init_302 : decode cX12_init 302 = .ok (.aload_n 0, 1) := by decide +kernel
theorem dX12_init_303 : decode cX12_init 303 = .ok (.bipush 81, 2) := by decide +kernel
theorem dX12_init_305 : decode cX12_init 305 = .ok (.newarray .int, 2) := by decide +kernel
theorem dX12_init_307 : decode cX12_init 307 = .ok (.putfield 111, 3) := by decide +kernel
theorem dX12_init_310 : decode cX12_init 310 = .ok (.aload_n 0, 1) := by decide +kernel
theorem dX12_init_311 : decode cX12_init 311 = .ok (.bipush 81, 2) := by decide +kernel
theorem dX12_init_313 : decode cX12_init 313 = .ok (.newarray .int, 2) := by decide +kernel
theorem dX12_init_315 : decode cX12_init 315 = .ok (.putfield 114, 3) := by decide +kernel
theorem dX12_init_318 : decode cX12_init 318 = .ok (.aload_n 0, 1) := by decide +kernel
theorem dX12_init_319 : decode cX12_init 319 = .ok (.sipush 4608, 3) := by decide +kernel
theorem dX12_init_322 : decode cX12_init 322 = .ok (.newarray .long, 2) := by decide +kernel
theorem dX12_init_324 : decode cX12_init 324 = .ok (.putfield 117, 3) := by decide +kernel
theorem dX12_init_327 : decode cX12_init 327 = .ok (.aload_n 0, 1) := by decide +kernel
theorem dX12_init_328 : decode cX12_init 328 = .ok (.sipush 4608, 3) := by decide +kernel
theorem dX12_init_331 : decode cX12_init 331 = .ok (.newarray .long, 2) := by decide +kernel
theorem dX12_init_333 : decode cX12_init 333 = .ok (.putfield 120, 3) := by decide +kernel
theorem dX12_init_336 : decode cX12_init 336 = .ok (.aload_n 0, 1) := by decide +kernel
theorem dX12_init_337 : decode cX12_init 337 = .ok (.bipush 10, 2) := by decide +kernel
theorem dX12_init_339 : decode cX12_init 339 = .ok (.newarray .long, 2) := by decide +kernel
theorem dX12_init_341 : decode cX12_init 341 = .ok (.putfield 123, 3) := by decide +kernel
theorem dX12_init_344 : decode cX12_init 344 = .ok (.aload_n 0, 1) := by decide +kernel
theorem dX12_init_345 : decode cX12_init 345 = .ok (.bipush 9, 2) := by decide +kernel
theorem dX12_init_347 : decode cX12_init 347 = .ok (.newarray .int, 2) := by decide +kernel
theorem dX12_init_349 : decode cX12_init 349 = .ok (.putfield 126, 3) := by decide +kernel
theorem dX12_init_352 : decode cX12_init 352 = .ok (.aload_n 0, 1) := by decide +kernel
theorem dX12_init_353 : decode cX12_init 353 = .ok (.bipush 10, 2) := by decide +kernel
theorem dX12_init_355 : decode cX12_init 355 = .ok (.newarray .int, 2) := by decide +kernel
theorem dX12_init_357 : decode cX12_init 357 = .ok (.putfield 129, 3) := by decide +kernel
theorem dX12_init_360 : decode cX12_init 360 = .ok (.aload_n 0, 1) := by decide +kernel
theorem dX12_init_361 : decode cX12_init 361 = .ok (.sipush 4608, 3) := by decide +kernel
theorem dX12_init_364 : decode cX12_init 364 = .ok (.newarray .boolean, 2) := by decide +kernel
theorem dX12_init_366 : decode cX12_init 366 = .ok (.putfield 132, 3) := by decide +kernel
theorem dX12_init_369 : decode cX12_init 369 = .ok (.aload_n 0, 1) := by decide +kernel
theorem dX12_init_370 : decode cX12_init 370 = .ok (.sipush 4608, 3) := by decide +kernel
theorem dX12_init_373 : decode cX12_init 373 = .ok (.newarray .boolean, 2) := by decide +kernel
theorem dX12_init_375 : decode cX12_init 375 = .ok (.putfield 135, 3) := by decide +kernel
theorem dX12_init_378 : decode cX12_init 378 = .ok (.aload_n 0, 1) := by decide +kernel
theorem dX12_init_379 : decode cX12_init 379 = .ok (.iconst 4, 1) := by decide +kernel
theorem dX12_init_380 : decode cX12_init 380 = .ok (.newarray .long, 2) := by decide +kernel
theorem dX12_init_382 : decode cX12_init 382 = .ok (.dup, 1) := by decide +kernel
theorem dX12_init_383 : decode cX12_init 383 = .ok (.iconst 0, 1) := by decide +kernel
theorem dX12_init_384 : decode cX12_init 384 = .ok (.ldc2_w 138, 3) := by decide +kernel
theorem dX12_init_387 : decode cX12_init 387 = .ok (.lastore, 1) := by decide +kernel
theorem dX12_init_388 : decode cX12_init 388 = .ok (.dup, 1) := by decide +kernel
theorem dX12_init_389 : decode cX12_init 389 = .ok (.iconst 1, 1) := by decide +kernel
theorem dX12_init_390 : decode cX12_init 390 = .ok (.ldc2_w 140, 3) := by decide +kernel
theorem dX12_init_393 : decode cX12_init 393 = .ok (.lastore, 1) := by decide +kernel
theorem dX12_init_394 : decode cX12_init 394 = .ok (.dup, 1) := by decide +kernel
theorem dX12_init_395 : decode cX12_init 395 = .ok (.iconst 2, 1) := by decide +kernel
theorem dX12_init_396 : decode cX12_init 396 = .ok (.ldc2_w 142, 3) := by decide +kernel
theorem dX12_init_399 : decode cX12_init 399 = .ok (.lastore, 1) := by decide +kernel
theorem dX12_init_400 : decode cX12_init 400 = .ok (.dup, 1) := by decide +kernel
theorem dX12_init_401 : decode cX12_init 401 = .ok (.iconst 3, 1) := by decide +kernel
theorem dX12_init_402 : decode cX12_init 402 = .ok (.ldc2_w 144, 3) := by decide +kernel
theorem dX12_init_405 : decode cX12_init 405 = .ok (.lastore, 1) := by decide +kernel
theorem dX12_init_406 : decode cX12_init 406 = .ok (.putfield 146, 3) := by decide +kernel
theorem dX12_init_409 : decode cX12_init 409 = .ok (.aload_n 0, 1) := by decide +kernel
theorem dX12_init_410 : decode cX12_init 410 = .ok (.bipush 96, 2) := by decide +kernel
theorem dX12_init_412 : decode cX12_init 412 = .ok (.newarray .int, 2) := by decide +kernel
theorem dX12_init_414 : decode cX12_init 414 = .ok (.putfield 149, 3) := by decide +kernel
theorem dX12_init_417 : decode cX12_init 417 = .ok (.aload_n 0, 1) := by decide +kernel
theorem dX12_init_418 : decode cX12_init 418 = .ok (.iconst (-1), 1) := by decide +kernel
theorem dX12_init_419 : decode cX12_init 419 = .ok (.putfield 152, 3) := by decide +kernel
theorem dX12_init_422 : decode cX12_init 422 = .ok (.aload_n 0, 1) := by decide +kernel
theorem dX12_init_423 : decode cX12_init 423 = .ok (.bipush 18, 2) := by decide +kernel
theorem dX12_init_425 : decode cX12_init 425 = .ok (.newarray .int, 2) := by decide +kernel
theorem dX12_init_427 : decode cX12_init 427 = .ok (.putfield 155, 3) := by decide +kernel
theorem dX12_init_430 : decode cX12_init 430 = .ok (.aload_n 0, 1) := by decide +kernel
theorem dX12_init_431 : decode cX12_init 431 = .ok (.iconst (-1), 1) := by decide +kernel
theorem dX12_init_432 : decode cX12_init 432 = .ok (.putfield 158, 3) := by decide +kernel
theorem dX12_init_435 : decode cX12_init 435 = .ok (.aload_n 0, 1) := by decide +kernel
theorem dX12_init_436 : decode cX12_init 436 = .ok (.getfield 13, 3) := by decide +kernel
theorem dX12_init_439 : decode cX12_init 439 = .ok (.iconst 4, 1) := by decide +kernel
theorem dX12_init_440 : decode cX12_init 440 = .ok (.iconst (-1), 1) := by decide +kernel
theorem dX12_init_441 : decode cX12_init 441 = .ok (.iastore, 1) := by decide +kernel
theorem dX12_init_442 : decode cX12_init 442 = .ok (.aload_n 0, 1) := by decide +kernel
theorem dX12_init_443 : decode cX12_init 443 = .ok (.getfield 13, 3) := by decide +kernel
theorem dX12_init_446 : decode cX12_init 446 = .ok (.bipush 6, 2) := by decide +kernel
theorem dX12_init_448 : decode cX12_init 448 = .ok (.iconst 1, 1) := by decide +kernel
theorem dX12_init_449 : decode cX12_init 449 = .ok (.iastore, 1) := by decide +kernel
theorem dX12_init_450 : decode cX12_init 450 = .ok (.return_, 1) := by decide +kernel
theorem dX12_in_0 : decode cX12_in 0 = .ok (.lload_n 0, 1) := by decide +kernel
theorem dX12_in_1 : decode cX12_in 1 = .ok (.lload_n 2, 1) := by decide +kernel
theorem dX12_in_2 : decode cX12_in 2 = .ok (.lcmp, 1) := by decide +kernel
theorem dX12_in_3 : decode cX12_in 3 = .ok (.ifCond .lt 14, 3) := by decide +kernel
theorem dX12_in_6 : decode cX12_in 6 = .ok (.lload_n 0, 1) := by decide +kernel
theorem dX12_in_7 : decode cX12_in 7 = .ok (.lload 4, 2) := by decide +kernel
theorem dX12_in_9 : decode cX12_in 9 = .ok (.lcmp, 1) := by decide +kernel
theorem dX12_in_10 : decode cX12_in 10 = .ok (.ifCond .gt 7, 3) := by decide +kernel
theorem dX12_in_13 : decode cX12_in 13 = .ok (.iconst 1, 1) := by decide +kernel
theorem dX12_in_14 : decode cX12_in 14 = .ok (.goto 4, 3) := by decide +kernel
theorem dX12_in_17 : decode cX12_in 17 = .ok (.iconst 0, 1) := by decide +kernel
theorem dX12_in_18 : decode cX12_in 18 = .ok (.ireturn, 1) := by decide +kernel
theorem dX12_is_0 : decode cX12_is 0 = .ok (.iload_n 0, 1) := by decide +kernel
theorem dX12_is_1 : decode cX12_is 1 = .ok (.iload_n 1, 1) := by decide +kernel
theorem dX12_is_2 : decode cX12_is 2 = .ok (.ishr, 1) := by decide +kernel
theorem dX12_is_3 : decode cX12_is 3 = .ok (.iconst 1, 1) := by decide +kernel
theorem dX12_is_4 : decode cX12_is 4 = .ok (.iand, 1) := by decide +kernel
theorem dX12_is_5 : decode cX12_is 5 = .ok (.iconst 1, 1) := by decide +kernel
theorem dX12_is_6 : decode cX12_is 6 = .ok (.if_icmp .ne 7, 3) := by decide +kernel
theorem dX12_is_9 : decode cX12_is 9 = .ok (.iconst 1, 1) := by decide +kernel
theorem dX12_is_10 : decode cX12_is 10 = .ok (.goto 4, 3) := by decide +kernel
theorem dX12_is_13 : decode cX12_is 13 = .ok (.iconst 0, 1) := by decide +kernel
theorem dX12_is_14 : decode cX12_is 14 = .ok (.ireturn, 1) := by decide +kernel
theorem dX12_ones_0 : decode cX12_ones 0 = .ok (.iconst 0, 1) := by decide +kernel
theorem dX12_ones_1 : decode cX12_ones 1 = .ok (.istore_n 1, 1) := by decide +kernel
theorem dX12_ones_2 : decode cX12_ones 2 = .ok (.iconst 0, 1) := by decide +kernel
theorem dX12_ones_3 : decode cX12_ones 3 = .ok (.istore_n 2, 1) := by decide +kernel
theorem dX12_ones_4 : decode cX12_ones 4 = .ok (.iload_n 2, 1) := by decide +kernel
theorem dX12_ones_5 : decode cX12_ones 5 = .ok (.bipush 9, 2) := by decide +kernel
theorem dX12_ones_7 : decode cX12_ones 7 = .ok (.if_icmp .ge 17, 3) := by decide +kernel
theorem dX12_ones_10 : decode cX12_ones 10 = .ok (.iload_n 1, 1) := by decide +kernel
theorem dX12_ones_11 : decode cX12_ones 11 = .ok (.iload_n 0, 1) := by decide +kernel
theorem dX12_ones_12 : decode cX12_ones 12 = .ok (.iload_n 2, 1) := by decide +kernel
theorem dX12_ones_13 : decode cX12_ones 13 = .ok (.ishr, 1) := by decide +kernel
theorem dX12_ones_14 : decode cX12_ones 14 = .ok (.iconst 1, 1) := by decide +kernel
theorem dX12_ones_15 : decode cX12_ones 15 = .ok (.iand, 1) := by decide +kernel
theorem dX12_ones_16 : decode cX12_ones 16 = .ok (.iadd, 1) := by decide +kernel
theorem dX12_ones_17 : decode cX12_ones 17 = .ok (.istore_n 1, 1) := by decide +kernel
theorem dX12_ones_18 : decode cX12_ones 18 = .ok (.iinc 2 1, 3) := by decide +kernel
theorem dX12_ones_21 : decode cX12_ones 21 = .ok (.goto (-17), 3) := by decide +kernel
theorem dX12_ones_24 : decode cX12_ones 24 = .ok (.iload_n 1, 1) := by decide +kernel
theorem dX12_ones_25 : decode cX12_ones 25 = .ok (.ireturn, 1) := by decide +kernel
theorem dX12_within_0 : decode cX12_within 0 = .ok (.lload_n 0, 1) := by decide +kernel
theorem dX12_within_1 : decode cX12_within 1 = .ok (.iload_n 2, 1) := by decide +kernel
theorem dX12_within_2 : decode cX12_within 2 = .ok (.i2l, 1) := by decide +kernel
theorem dX12_within_3 : decode cX12_within 3 = .ok (.lcmp, 1) := by decide +kernel
theorem dX12_within_4 : decode cX12_within 4 = .ok (.ifCond .ge 7, 3) := by decide +kernel
theorem dX12_within_7 : decode cX12_within 7 = .ok (.iload_n 2, 1) := by decide +kernel
theorem dX12_within_8 : decode cX12_within 8 = .ok (.goto 16, 3) := by decide +kernel
theorem dX12_within_11 : decode cX12_within 11 = .ok (.lload_n 0, 1) := by decide +kernel
theorem dX12_within_12 : decode cX12_within 12 = .ok (.iload_n 3, 1) := by decide +kernel
theorem dX12_within_13 : decode cX12_within 13 = .ok (.i2l, 1) := by decide +kernel
theorem dX12_within_14 : decode cX12_within 14 = .ok (.lcmp, 1) := by decide +kernel
theorem dX12_within_15 : decode cX12_within 15 = .ok (.ifCond .le 7, 3) := by decide +kernel
theorem dX12_within_18 : decode cX12_within 18 = .ok (.iload_n 3, 1) := by decide +kernel
theorem dX12_within_19 : decode cX12_within 19 = .ok (.goto 5, 3) := by decide +kernel
theorem dX12_within_22 : decode cX12_within 22 = .ok (.lload_n 0, 1) := by decide +kernel
theorem dX12_within_23 : decode cX12_within 23 = .ok (.l2i, 1) := by decide +kernel
theorem dX12_within_24 : decode cX12_within 24 = .ok (.ireturn, 1) := by decide +kernel
theorem dX12_tell_0 : decode cX12_tell 0 = .ok (.aload_n 0, 1) := by decide +kernel
theorem dX12_tell_1 : decode cX12_tell 1 = .ok (.iload_n 1, 1) := by decide +kernel
theorem dX12_tell_2 : decode cX12_tell 2 = .ok (.ifCond .ge 7, 3) := by decide +kernel
theorem dX12_tell_5 : decode cX12_tell 5 = .ok (.iload_n 1, 1) := by decide +kernel
theorem dX12_tell_6 : decode cX12_tell 6 = .ok (.goto 4, 3) := by decide +kernel
theorem dX12_tell_9 : decode cX12_tell 9 = .ok (.iconst 0, 1) := by decide +kernel
theorem dX12_tell_10 : decode cX12_tell 10 = .ok (.putfield 164, 3) := by decide +kernel
theorem dX12_tell_13 : decode cX12_tell 13 = .ok (.iload_n 1, 1) := by decide +kernel
theorem dX12_tell_14 : decode cX12_tell 14 = .ok (.ifCond .ge 14, 3) := by decide +kernel
theorem dX12_tell_17 : decode cX12_tell 17 = .ok (.aload_n 0, 1) := by decide +kernel
theorem dX12_tell_18 : decode cX12_tell 18 = .ok (.getfield 7, 3) := by decide +kernel
theorem dX12_tell_21 : decode cX12_tell 21 = .ok (.iload_n 1, 1) := by decide +kernel
theorem dX12_tell_22 : decode cX12_tell 22 = .ok (.ineg, 1) := by decide +kernel
theorem dX12_tell_23 : decode cX12_tell 23 = .ok (.dup2, 1) := by decide +kernel
theorem dX12_tell_24 : decode cX12_tell 24 = .ok (.iaload, 1) := by decide +kernel
theorem dX12_tell_25 : decode cX12_tell 25 = .ok (.iconst 1, 1) := by decide +kernel
theorem dX12_tell_26 : decode cX12_tell 26 = .ok (.iadd, 1) := by decide +kernel
theorem dX12_tell_27 : decode cX12_tell 27 = .ok (.iastore, 1) := by decide +kernel
theorem dX12_tell_28 : decode cX12_tell 28 = .ok (.iload_n 1, 1) := by decide +kernel
theorem dX12_tell_29 : decode cX12_tell 29 = .ok (.ireturn, 1) := by decide +kernel
theorem dX12_change_0 : decode cX12_change 0 = .ok (.aload_n 0, 1) := by decide +kernel
theorem dX12_change_1 : decode cX12_change 1 = .ok (.getfield 13, 3) := by decide +kernel
theorem dX12_change_4 : decode cX12_change 4 = .ok (.iload_n 1, 1) := by decide +kernel
theorem dX12_change_5 : decode cX12_change 5 = .ok (.iaload, 1) := by decide +kernel
theorem dX12_change_6 : decode cX12_change 6 = .ok (.istore_n 3, 1) := by decide +kernel
theorem dX12_change_7 : decode cX12_change 7 = .ok (.aload_n 0, 1) := by decide +kernel
theorem dX12_change_8 : decode cX12_change 8 = .ok (.getfield 13, 3) := by decide +kernel
theorem dX12_change_11 : decode cX12_change 11 = .ok (.iload_n 1, 1) := by decide +kernel
theorem dX12_change_12 : decode cX12_change 12 = .ok (.iload_n 2, 1) := by decide +kernel
theorem dX12_change_13 : decode cX12_change 13 = .ok (.iastore, 1) := by decide +kernel
theorem dX12_change_14 : decode cX12_change 14 = .ok (.aload_n 0, 1) := by decide +kernel
theorem dX12_change_15 : decode cX12_change 15 = .ok (.iconst 0, 1) := by decide +kernel
theorem dX12_change_16 : decode cX12_change 16 = .ok (.putfield 164, 3) := by decide +kernel
theorem dX12_change_19 : decode cX12_change 19 = .ok (.iload_n 3, 1) := by decide +kernel
theorem dX12_change_20 : decode cX12_change 20 = .ok (.ireturn, 1) := by decide +kernel
theorem dX12_settled_0 : decode cX12_settled 0 = .ok (.aload_n 0, 1) := by decide +kernel
theorem dX12_settled_1 : decode cX12_settled 1 = .ok (.iload_n 1, 1) := by decide +kernel
theorem dX12_settled_2 : decode cX12_settled 2 = .ok (.ifCond .ge 10, 3) := by decide +kernel
theorem dX12_settled_5 : decode cX12_settled 5 = .ok (.aload_n 0, 1) := by decide +kernel
theorem dX12_settled_6 : decode cX12_settled 6 = .ok (.getfield 167, 3) := by decide +kernel
theorem dX12_settled_9 : decode cX12_settled 9 = .ok (.goto 4, 3) := by decide +kernel
theorem dX12_settled_12 : decode cX12_settled 12 = .ok (.iconst 0, 1) := by decide +kernel
theorem dX12_settled_13 : decode cX12_settled 13 = .ok (.putfield 167, 3) := by decide +kernel
theorem dX12_settled_16 : decode cX12_settled 16 = .ok (.aload_n 0, 1) := by decide +kernel
theorem dX12_settled_17 : decode cX12_settled 17 = .ok (.iload_n 1, 1) := by decide +kernel
theorem dX12_settled_18 : decode cX12_settled 18 = .ok (.invokevirtual 170, 3) := by decide +kernel
theorem dX12_settled_21 : decode cX12_settled 21 = .ok (.ireturn, 1) := by decide +kernel
theorem dX12_keepAll_0 : decode cX12_keepAll 0 = .ok (.iconst 0, 1) := by decide +kernel
theorem dX12_keepAll_1 : decode cX12_keepAll 1 = .ok (.istore_n 2, 1) := by decide +kernel
theorem dX12_keepAll_2 : decode cX12_keepAll 2 = .ok (.iload_n 2, 1) := by decide +kernel
theorem dX12_keepAll_3 : decode cX12_keepAll 3 = .ok (.bipush 33, 2) := by decide +kernel
theorem dX12_keepAll_5 : decode cX12_keepAll 5 = .ok (.if_icmp .ge 28, 3) := by decide +kernel
theorem dX12_keepAll_8 : decode cX12_keepAll 8 = .ok (.aload_n 0, 1) := by decide +kernel
theorem dX12_keepAll_9 : decode cX12_keepAll 9 = .ok (.getfield 23, 3) := by decide +kernel
theorem dX12_keepAll_12 : decode cX12_keepAll 12 = .ok (.bipush 33, 2) := by decide +kernel
theorem dX12_keepAll_14 : decode cX12_keepAll 14 = .ok (.iload_n 1, 1) := by decide +kernel
theorem dX12_keepAll_15 : decode cX12_keepAll 15 = .ok (.imul, 1) := by decide +kernel
theorem dX12_keepAll_16 : decode cX12_keepAll 16 = .ok (.iload_n 2, 1) := by decide +kernel
theorem dX12_keepAll_17 : decode cX12_keepAll 17 = .ok (.iadd, 1) := by decide +kernel
theorem dX12_keepAll_18 : decode cX12_keepAll 18 = .ok (.aload_n 0, 1) := by decide +kernel
theorem dX12_keepAll_19 : decode cX12_keepAll 19 = .ok (.getfield 13, 3) := by decide +kernel
theorem dX12_keepAll_22 : decode cX12_keepAll 22 = .ok (.iconst 5, 1) := by decide +kernel
theorem dX12_keepAll_23 : decode cX12_keepAll 23 = .ok (.iload_n 2, 1) := by decide +kernel
theorem dX12_keepAll_24 : decode cX12_keepAll 24 = .ok (.iadd, 1) := by decide +kernel
theorem dX12_keepAll_25 : decode cX12_keepAll 25 = .ok (.iaload, 1) := by decide +kernel
theorem dX12_keepAll_26 : decode cX12_keepAll 26 = .ok (.iastore, 1) := by decide +kernel
theorem dX12_keepAll_27 : decode cX12_keepAll 27 = .ok (.iinc 2 1, 3) := by decide +kernel
theorem dX12_keepAll_30 : decode cX12_keepAll 30 = .ok (.goto (-28), 3) := by decide +kernel
theorem dX12_keepAll_33 : decode cX12_keepAll 33 = .ok (.return_, 1) := by decide +kernel
theorem dX12_putBack_0 : decode cX12_putBack 0 = .ok (.iconst 0, 1) := by decide +kernel
theorem dX12_putBack_1 : decode cX12_putBack 1 = .ok (.istore_n 2, 1) := by decide +kernel
theorem dX12_putBack_2 : decode cX12_putBack 2 = .ok (.iload_n 2, 1) := by decide +kernel
theorem dX12_putBack_3 : decode cX12_putBack 3 = .ok (.bipush 33, 2) := by decide +kernel
theorem dX12_putBack_5 : decode cX12_putBack 5 = .ok (.if_icmp .ge 28, 3) := by decide +kernel
theorem dX12_putBack_8 : decode cX12_putBack 8 = .ok (.aload_n 0, 1) := by decide +kernel
theorem dX12_putBack_9 : decode cX12_putBack 9 = .ok (.getfield 13, 3) := by decide +kernel
theorem dX12_putBack_12 : decode cX12_putBack 12 = .ok (.iconst 5, 1) := by decide +kernel
theorem dX12_putBack_13 : decode cX12_putBack 13 = .ok (.iload_n 2, 1) := by decide +kernel
theorem dX12_putBack_14 : decode cX12_putBack 14 = .ok (.iadd, 1) := by decide +kernel
theorem dX12_putBack_15 : decode cX12_putBack 15 = .ok (.aload_n 0, 1) := by decide +kernel
theorem dX12_putBack_16 : decode cX12_putBack 16 = .ok (.getfield 23, 3) := by decide +kernel
theorem dX12_putBack_19 : decode cX12_putBack 19 = .ok (.bipush 33, 2) := by decide +kernel
theorem dX12_putBack_21 : decode cX12_putBack 21 = .ok (.iload_n 1, 1) := by decide +kernel
theorem dX12_putBack_22 : decode cX12_putBack 22 = .ok (.imul, 1) := by decide +kernel
theorem dX12_putBack_23 : decode cX12_putBack 23 = .ok (.iload_n 2, 1) := by decide +kernel
theorem dX12_putBack_24 : decode cX12_putBack 24 = .ok (.iadd, 1) := by decide +kernel
theorem dX12_putBack_25 : decode cX12_putBack 25 = .ok (.iaload, 1) := by decide +kernel
theorem dX12_putBack_26 : decode cX12_putBack 26 = .ok (.iastore, 1) := by decide +kernel
theorem dX12_putBack_27 : decode cX12_putBack 27 = .ok (.iinc 2 1, 3) := by decide +kernel
theorem dX12_putBack_30 : decode cX12_putBack 30 = .ok (.goto (-28), 3) := by decide +kernel
theorem dX12_putBack_33 : decode cX12_putBack 33 = .ok (.return_, 1) := by decide +kernel
theorem dX12_remember_0 : decode cX12_remember 0 = .ok (.aload_n 0, 1) := by decide +kernel
theorem dX12_remember_1 : decode cX12_remember 1 = .ok (.getfield 167, 3) := by decide +kernel
theorem dX12_remember_4 : decode cX12_remember 4 = .ok (.bipush 16, 2) := by decide +kernel
theorem dX12_remember_6 : decode cX12_remember 6 = .ok (.if_icmp .ne 71, 3) := by decide +kernel
theorem dX12_remember_9 : decode cX12_remember 9 = .ok (.iconst 0, 1) := by decide +kernel
theorem dX12_remember_10 : decode cX12_remember 10 = .ok (.istore_n 2, 1) := by decide +kernel
theorem dX12_remember_11 : decode cX12_remember 11 = .ok (.iload_n 2, 1) := by decide +kernel
theorem dX12_remember_12 : decode cX12_remember 12 = .ok (.sipush 495, 3) := by decide +kernel
theorem dX12_remember_15 : decode cX12_remember 15 = .ok (.if_icmp .ge 24, 3) := by decide +kernel
theorem dX12_remember_18 : decode cX12_remember 18 = .ok (.aload_n 0, 1) := by decide +kernel
theorem dX12_remember_19 : decode cX12_remember 19 = .ok (.getfield 23, 3) := by decide +kernel
theorem dX12_remember_22 : decode cX12_remember 22 = .ok (.iload_n 2, 1) := by decide +kernel
theorem dX12_remember_23 : decode cX12_remember 23 = .ok (.aload_n 0, 1) := by decide +kernel
theorem dX12_remember_24 : decode cX12_remember 24 = .ok (.getfield 23, 3) := by decide +kernel
theorem dX12_remember_27 : decode cX12_remember 27 = .ok (.iload_n 2, 1) := by decide +kernel
theorem dX12_remember_28 : decode cX12_remember 28 = .ok (.bipush 33, 2) := by decide +kernel
theorem dX12_remember_30 : decode cX12_remember 30 = .ok (.iadd, 1) := by decide +kernel
theorem dX12_remember_31 : decode cX12_remember 31 = .ok (.iaload, 1) := by decide +kernel
theorem dX12_remember_32 : decode cX12_remember 32 = .ok (.iastore, 1) := by decide +kernel
theorem dX12_remember_33 : decode cX12_remember 33 = .ok (.iinc 2 1, 3) := by decide +kernel
theorem dX12_remember_36 : decode cX12_remember 36 = .ok (.goto (-25), 3) := by decide +kernel
theorem dX12_remember_39 : decode cX12_remember 39 = .ok (.iconst 0, 1) := by decide +kernel
theorem dX12_remember_40 : decode cX12_remember 40 = .ok (.istore_n 2, 1) := by decide +kernel
theorem dX12_remember_41 : decode cX12_remember 41 = .ok (.iload_n 2, 1) := by decide +kernel
theorem dX12_remember_42 : decode cX12_remember 42 = .ok (.bipush 15, 2) := by decide +kernel
theorem dX12_remember_44 : decode cX12_remember 44 = .ok (.if_icmp .ge 23, 3) := by decide +kernel
theorem dX12_remember_47 : decode cX12_remember 47 = .ok (.aload_n 0, 1) := by decide +kernel
theorem dX12_remember_48 : decode cX12_remember 48 = .ok (.getfield 26, 3) := by decide +kernel
theorem dX12_remember_51 : decode cX12_remember 51 = .ok (.iload_n 2, 1) := by decide +kernel
theorem dX12_remember_52 : decode cX12_remember 52 = .ok (.aload_n 0, 1) := by decide +kernel
theorem dX12_remember_53 : decode cX12_remember 53 = .ok (.getfield 26, 3) := by decide +kernel
theorem dX12_remember_56 : decode cX12_remember 56 = .ok (.iload_n 2, 1) := by decide +kernel
theorem dX12_remember_57 : decode cX12_remember 57 = .ok (.iconst 1, 1) := by decide +kernel
theorem dX12_remember_58 : decode cX12_remember 58 = .ok (.iadd, 1) := by decide +kernel
theorem dX12_remember_59 : decode cX12_remember 59 = .ok (.iaload, 1) := by decide +kernel
theorem dX12_remember_60 : decode cX12_remember 60 = .ok (.iastore, 1) := by decide +kernel
theorem dX12_remember_61 : decode cX12_remember 61 = .ok (.iinc 2 1, 3) := by decide +kernel
theorem dX12_remember_64 : decode cX12_remember 64 = .ok (.goto (-23), 3) := by decide +kernel
theorem dX12_remember_67 : decode cX12_remember 67 = .ok (.aload_n 0, 1) := by decide +kernel
theorem dX12_remember_68 : decode cX12_remember 68 = .ok (.dup, 1) := by decide +kernel
theorem dX12_remember_69 : decode cX12_remember 69 = .ok (.getfield 167, 3) := by decide +kernel
theorem dX12_remember_72 : decode cX12_remember 72 = .ok (.iconst 1, 1) := by decide +kernel
theorem dX12_remember_73 : decode cX12_remember 73 = .ok (.isub, 1) := by decide +kernel
theorem dX12_remember_74 : decode cX12_remember 74 = .ok (.putfield 167, 3) := by decide +kernel
theorem dX12_remember_77 : decode cX12_remember 77 = .ok (.aload_n 0, 1) := by decide +kernel
theorem dX12_remember_78 : decode cX12_remember 78 = .ok (.aload_n 0, 1) := by decide +kernel
theorem dX12_remember_79 : decode cX12_remember 79 = .ok (.getfield 167, 3) := by decide +kernel
theorem dX12_remember_82 : decode cX12_remember 82 = .ok (.invokevirtual 174, 3) := by decide +kernel
theorem dX12_remember_85 : decode cX12_remember 85 = .ok (.aload_n 0, 1) := by decide +kernel
theorem dX12_remember_86 : decode cX12_remember 86 = .ok (.getfield 26, 3) := by decide +kernel
theorem dX12_remember_89 : decode cX12_remember 89 = .ok (.aload_n 0, 1) := by decide +kernel
theorem dX12_remember_90 : decode cX12_remember 90 = .ok (.getfield 167, 3) := by decide +kernel
theorem dX12_remember_93 : decode cX12_remember 93 = .ok (.iload_n 1, 1) := by decide +kernel
theorem dX12_remember_94 : decode cX12_remember 94 = .ok (.iastore, 1) := by decide +kernel
theorem dX12_remember_95 : decode cX12_remember 95 = .ok (.aload_n 0, 1) := by decide +kernel
theorem dX12_remember_96 : decode cX12_remember 96 = .ok (.dup, 1) := by decide +kernel
theorem dX12_remember_97 : decode cX12_remember 97 = .ok (.getfield 167, 3) := by decide +kernel
theorem dX12_remember_100 : decode cX12_remember 100 = .ok (.iconst 1, 1) := by decide +kernel
theorem dX12_remember_101 : decode cX12_remember 101 = .ok (.iadd, 1) := by decide +kernel
theorem dX12_remember_102 : decode cX12_remember 102 = .ok (.putfield 167, 3) := by decide +kernel
theorem dX12_remember_105 : decode cX12_remember 105 = .ok (.return_, 1) := by decide +kernel
theorem dX12_undo_0 : decode cX12_undo 0 = .ok (.aload_n 0, 1) := by decide +kernel
theorem dX12_undo_1 : decode cX12_undo 1 = .ok (.iconst 0, 1) := by decide +kernel
theorem dX12_undo_2 : decode cX12_undo 2 = .ok (.putfield 161, 3) := by decide +kernel
theorem dX12_undo_5 : decode cX12_undo 5 = .ok (.aload_n 0, 1) := by decide +kernel
theorem dX12_undo_6 : decode cX12_undo 6 = .ok (.getfield 167, 3) := by decide +kernel
theorem dX12_undo_9 : decode cX12_undo 9 = .ok (.ifCond .ne 10, 3) := by decide +kernel
theorem dX12_undo_12 : decode cX12_undo 12 = .ok (.aload_n 0, 1) := by decide +kernel
theorem dX12_undo_13 : decode cX12_undo 13 = .ok (.bipush (-3), 2) := by decide +kernel
theorem dX12_undo_15 : decode cX12_undo 15 = .ok (.invokevirtual 170, 3) := by decide +kernel
theorem dX12_undo_18 : decode cX12_undo 18 = .ok (.ireturn, 1) := by decide +kernel
theorem dX12_undo_19 : decode cX12_undo 19 = .ok (.aload_n 0, 1) := by decide +kernel
theorem dX12_undo_20 : decode cX12_undo 20 = .ok (.dup, 1) := by decide +kernel
theorem dX12_undo_21 : decode cX12_undo 21 = .ok (.getfield 167, 3) := by decide +kernel
theorem dX12_undo_24 : decode cX12_undo 24 = .ok (.iconst 1, 1) := by decide +kernel
theorem dX12_undo_25 : decode cX12_undo 25 = .ok (.isub, 1) := by decide +kernel
theorem dX12_undo_26 : decode cX12_undo 26 = .ok (.putfield 167, 3) := by decide +kernel
theorem dX12_undo_29 : decode cX12_undo 29 = .ok (.aload_n 0, 1) := by decide +kernel
theorem dX12_undo_30 : decode cX12_undo 30 = .ok (.aload_n 0, 1) := by decide +kernel
theorem dX12_undo_31 : decode cX12_undo 31 = .ok (.getfield 167, 3) := by decide +kernel
theorem dX12_undo_34 : decode cX12_undo 34 = .ok (.invokevirtual 178, 3) := by decide +kernel
theorem dX12_undo_37 : decode cX12_undo 37 = .ok (.aload_n 0, 1) := by decide +kernel
theorem dX12_undo_38 : decode cX12_undo 38 = .ok (.aload_n 0, 1) := by decide +kernel
theorem dX12_undo_39 : decode cX12_undo 39 = .ok (.getfield 26, 3) := by decide +kernel
theorem dX12_undo_42 : decode cX12_undo 42 = .ok (.aload_n 0, 1) := by decide +kernel
theorem dX12_undo_43 : decode cX12_undo 43 = .ok (.getfield 167, 3) := by decide +kernel
theorem dX12_undo_46 : decode cX12_undo 46 = .ok (.iaload, 1) := by decide +kernel
theorem dX12_undo_47 : decode cX12_undo 47 = .ok (.invokevirtual 170, 3) := by decide +kernel
theorem dX12_undo_50 : decode cX12_undo 50 = .ok (.ireturn, 1) := by decide +kernel
theorem dX12_image_0 : decode cX12_image 0 = .ok (.aload_n 0, 1) := by decide +kernel
theorem dX12_image_1 : decode cX12_image 1 = .ok (.iconst 0, 1) := by decide +kernel
theorem dX12_image_2 : decode cX12_image 2 = .ok (.putfield 161, 3) := by decide +kernel
theorem dX12_image_5 : decode cX12_image 5 = .ok (.iload_n 1, 1) := by decide +kernel
theorem dX12_image_6 : decode cX12_image 6 = .ok (.i2l, 1) := by decide +kernel
theorem dX12_image_7 : decode cX12_image 7 = .ok (.lconst 0, 1) := by decide +kernel
theorem dX12_image_8 : decode cX12_image 8 = .ok (.lconst 1, 1) := by decide +kernel
theorem dX12_image_9 : decode cX12_image 9 = .ok (.invokestatic 181, 3) := by decide +kernel
theorem dX12_image_12 : decode cX12_image 12 = .ok (.ifCond .ne 9, 3) := by decide +kernel
theorem dX12_image_15 : decode cX12_image 15 = .ok (.aload_n 0, 1) := by decide +kernel
theorem dX12_image_16 : decode cX12_image 16 = .ok (.iconst (-1), 1) := by decide +kernel
theorem dX12_image_17 : decode cX12_image 17 = .ok (.invokevirtual 170, 3) := by decide +kernel
theorem dX12_image_20 : decode cX12_image 20 = .ok (.ireturn, 1) := by decide +kernel
theorem dX12_image_21 : decode cX12_image 21 = .ok (.iconst 0, 1) := by decide +kernel
theorem dX12_image_22 : decode cX12_image 22 = .ok (.istore_n 2, 1) := by decide +kernel
theorem dX12_image_23 : decode cX12_image 23 = .ok (.iload_n 2, 1) := by decide +kernel
theorem dX12_image_24 : decode cX12_image 24 = .ok (.sipush 5450, 3) := by decide +kernel
theorem dX12_image_27 : decode cX12_image 27 = .ok (.if_icmp .ge 27, 3) := by decide +kernel
theorem dX12_image_30 : decode cX12_image 30 = .ok (.aload_n 0, 1) := by decide +kernel
theorem dX12_image_31 : decode cX12_image 31 = .ok (.getfield 16, 3) := by decide +kernel
theorem dX12_image_34 : decode cX12_image 34 = .ok (.sipush 5450, 3) := by decide +kernel
theorem dX12_image_37 : decode cX12_image 37 = .ok (.iload_n 1, 1) := by decide +kernel
theorem dX12_image_38 : decode cX12_image 38 = .ok (.imul, 1) := by decide +kernel
theorem dX12_image_39 : decode cX12_image 39 = .ok (.iload_n 2, 1) := by decide +kernel
theorem dX12_image_40 : decode cX12_image 40 = .ok (.iadd, 1) := by decide +kernel
theorem dX12_image_41 : decode cX12_image 41 = .ok (.aload_n 0, 1) := by decide +kernel
theorem dX12_image_42 : decode cX12_image 42 = .ok (.getfield 13, 3) := by decide +kernel
theorem dX12_image_45 : decode cX12_image 45 = .ok (.iload_n 2, 1) := by decide +kernel
theorem dX12_image_46 : decode cX12_image 46 = .ok (.iaload, 1) := by decide +kernel
theorem dX12_image_47 : decode cX12_image 47 = .ok (.iastore, 1) := by decide +kernel
theorem dX12_image_48 : decode cX12_image 48 = .ok (.iinc 2 1, 3) := by decide +kernel
theorem dX12_image_51 : decode cX12_image 51 = .ok (.goto (-28), 3) := by decide +kernel
theorem dX12_image_54 : decode cX12_image 54 = .ok (.aload_n 0, 1) := by decide +kernel
theorem dX12_image_55 : decode cX12_image 55 = .ok (.getfield 19, 3) := by decide +kernel
theorem dX12_image_58 : decode cX12_image 58 = .ok (.iload_n 1, 1) := by decide +kernel
theorem dX12_image_59 : decode cX12_image 59 = .ok (.iconst 1, 1) := by decide +kernel
theorem dX12_image_60 : decode cX12_image 60 = .ok (.bastore, 1) := by decide +kernel
theorem dX12_image_61 : decode cX12_image 61 = .ok (.aload_n 0, 1) := by decide +kernel
theorem dX12_image_62 : decode cX12_image 62 = .ok (.iconst 0, 1) := by decide +kernel
theorem dX12_image_63 : decode cX12_image 63 = .ok (.invokevirtual 170, 3) := by decide +kernel
theorem dX12_image_66 : decode cX12_image 66 = .ok (.ireturn, 1) := by decide +kernel
theorem dX12_back_0 : decode cX12_back 0 = .ok (.aload_n 0, 1) := by decide +kernel
theorem dX12_back_1 : decode cX12_back 1 = .ok (.iconst 0, 1) := by decide +kernel
theorem dX12_back_2 : decode cX12_back 2 = .ok (.putfield 161, 3) := by decide +kernel
theorem dX12_back_5 : decode cX12_back 5 = .ok (.iload_n 1, 1) := by decide +kernel
theorem dX12_back_6 : decode cX12_back 6 = .ok (.i2l, 1) := by decide +kernel
theorem dX12_back_7 : decode cX12_back 7 = .ok (.lconst 0, 1) := by decide +kernel
theorem dX12_back_8 : decode cX12_back 8 = .ok (.lconst 1, 1) := by decide +kernel
theorem dX12_back_9 : decode cX12_back 9 = .ok (.invokestatic 181, 3) := by decide +kernel
theorem dX12_back_12 : decode cX12_back 12 = .ok (.ifCond .ne 9, 3) := by decide +kernel
theorem dX12_back_15 : decode cX12_back 15 = .ok (.aload_n 0, 1) := by decide +kernel
theorem dX12_back_16 : decode cX12_back 16 = .ok (.iconst (-1), 1) := by decide +kernel
theorem dX12_back_17 : decode cX12_back 17 = .ok (.invokevirtual 170, 3) := by decide +kernel
theorem dX12_back_20 : decode cX12_back 20 = .ok (.ireturn, 1) := by decide +kernel
theorem dX12_back_21 : decode cX12_back 21 = .ok (.aload_n 0, 1) := by decide +kernel
theorem dX12_back_22 : decode cX12_back 22 = .ok (.getfield 19, 3) := by decide +kernel
theorem dX12_back_25 : decode cX12_back 25 = .ok (.iload_n 1, 1) := by decide +kernel
theorem dX12_back_26 : decode cX12_back 26 = .ok (.baload, 1) := by decide +kernel
theorem dX12_back_27 : decode cX12_back 27 = .ok (.ifCond .ne 10, 3) := by decide +kernel
theorem dX12_back_30 : decode cX12_back 30 = .ok (.aload_n 0, 1) := by decide +kernel
theorem dX12_back_31 : decode cX12_back 31 = .ok (.bipush (-2), 2) := by decide +kernel
theorem dX12_back_33 : decode cX12_back 33 = .ok (.invokevirtual 170, 3) := by decide +kernel
theorem dX12_back_36 : decode cX12_back 36 = .ok (.ireturn, 1) := by decide +kernel
theorem dX12_back_37 : decode cX12_back 37 = .ok (.iconst 0, 1) := by decide +kernel
theorem dX12_back_38 : decode cX12_back 38 = .ok (.istore_n 2, 1) := by decide +kernel
theorem dX12_back_39 : decode cX12_back 39 = .ok (.iload_n 2, 1) := by decide +kernel
theorem dX12_back_40 : decode cX12_back 40 = .ok (.sipush 5450, 3) := by decide +kernel
theorem dX12_back_43 : decode cX12_back 43 = .ok (.if_icmp .ge 27, 3) := by decide +kernel
theorem dX12_back_46 : decode cX12_back 46 = .ok (.aload_n 0, 1) := by decide +kernel
theorem dX12_back_47 : decode cX12_back 47 = .ok (.getfield 13, 3) := by decide +kernel
theorem dX12_back_50 : decode cX12_back 50 = .ok (.iload_n 2, 1) := by decide +kernel
theorem dX12_back_51 : decode cX12_back 51 = .ok (.aload_n 0, 1) := by decide +kernel
theorem dX12_back_52 : decode cX12_back 52 = .ok (.getfield 16, 3) := by decide +kernel
theorem dX12_back_55 : decode cX12_back 55 = .ok (.sipush 5450, 3) := by decide +kernel
theorem dX12_back_58 : decode cX12_back 58 = .ok (.iload_n 1, 1) := by decide +kernel
theorem dX12_back_59 : decode cX12_back 59 = .ok (.imul, 1) := by decide +kernel
theorem dX12_back_60 : decode cX12_back 60 = .ok (.iload_n 2, 1) := by decide +kernel
theorem dX12_back_61 : decode cX12_back 61 = .ok (.iadd, 1) := by decide +kernel
theorem dX12_back_62 : decode cX12_back 62 = .ok (.iaload, 1) := by decide +kernel
theorem dX12_back_63 : decode cX12_back 63 = .ok (.iastore, 1) := by decide +kernel
theorem dX12_back_64 : decode cX12_back 64 = .ok (.iinc 2 1, 3) := by decide +kernel
theorem dX12_back_67 : decode cX12_back 67 = .ok (.goto (-28), 3) := by decide +kernel
theorem dX12_back_70 : decode cX12_back 70 = .ok (.aload_n 0, 1) := by decide +kernel
theorem dX12_back_71 : decode cX12_back 71 = .ok (.iconst 0, 1) := by decide +kernel
theorem dX12_back_72 : decode cX12_back 72 = .ok (.invokevirtual 185, 3) := by decide +kernel
theorem dX12_back_75 : decode cX12_back 75 = .ok (.ireturn, 1) := by decide +kernel
theorem dX12_isCat_0 : decode cX12_isCat 0 = .ok (.iload_n 1, 1) := by decide +kernel
theorem dX12_isCat_1 : decode cX12_isCat 1 = .ok (.i2l, 1) := by decide +kernel
theorem dX12_isCat_2 : decode cX12_isCat 2 = .ok (.lconst 0, 1) := by decide +kernel
theorem dX12_isCat_3 : decode cX12_isCat 3 = .ok (.aload_n 0, 1) := by decide +kernel
theorem dX12_isCat_4 : decode cX12_isCat 4 = .ok (.getfield 13, 3) := by decide +kernel
theorem dX12_isCat_7 : decode cX12_isCat 7 = .ok (.iconst 0, 1) := by decide +kernel
theorem dX12_isCat_8 : decode cX12_isCat 8 = .ok (.iaload, 1) := by decide +kernel
theorem dX12_isCat_9 : decode cX12_isCat 9 = .ok (.i2l, 1) := by decide +kernel
theorem dX12_isCat_10 : decode cX12_isCat 10 = .ok (.lconst 1, 1) := by decide +kernel
theorem dX12_isCat_11 : decode cX12_isCat 11 = .ok (.lsub, 1) := by decide +kernel
theorem dX12_isCat_12 : decode cX12_isCat 12 = .ok (.invokestatic 181, 3) := by decide +kernel
theorem dX12_isCat_15 : decode cX12_isCat 15 = .ok (.ireturn, 1) := by decide +kernel
theorem dX12_isShip_0 : decode cX12_isShip 0 = .ok (.iload_n 1, 1) := by decide +kernel
theorem dX12_isShip_1 : decode cX12_isShip 1 = .ok (.i2l, 1) := by decide +kernel
theorem dX12_isShip_2 : decode cX12_isShip 2 = .ok (.lconst 0, 1) := by decide +kernel
theorem dX12_isShip_3 : decode cX12_isShip 3 = .ok (.aload_n 0, 1) := by decide +kernel
theorem dX12_isShip_4 : decode cX12_isShip 4 = .ok (.getfield 13, 3) := by decide +kernel
theorem dX12_isShip_7 : decode cX12_isShip 7 = .ok (.iconst 1, 1) := by decide +kernel
theorem dX12_isShip_8 : decode cX12_isShip 8 = .ok (.iaload, 1) := by decide +kernel
theorem dX12_isShip_9 : decode cX12_isShip 9 = .ok (.i2l, 1) := by decide +kernel
theorem dX12_isShip_10 : decode cX12_isShip 10 = .ok (.lconst 1, 1) := by decide +kernel
theorem dX12_isShip_11 : decode cX12_isShip 11 = .ok (.lsub, 1) := by decide +kernel
theorem dX12_isShip_12 : decode cX12_isShip 12 = .ok (.invokestatic 181, 3) := by decide +kernel
theorem dX12_isShip_15 : decode cX12_isShip 15 = .ok (.ireturn, 1) := by decide +kernel
theorem dX12_isAlive_0 : decode cX12_isAlive 0 = .ok (.aload_n 0, 1) := by decide +kernel
theorem dX12_isAlive_1 : decode cX12_isAlive 1 = .ok (.getfield 13, 3) := by decide +kernel
theorem dX12_isAlive_4 : decode cX12_isAlive 4 = .ok (.bipush 8, 2) := by decide +kernel
theorem dX12_isAlive_6 : decode cX12_isAlive 6 = .ok (.iload_n 1, 1) := by decide +kernel
theorem dX12_isAlive_7 : decode cX12_isAlive 7 = .ok (.iadd, 1) := by decide +kernel
theorem dX12_isAlive_8 : decode cX12_isAlive 8 = .ok (.iaload, 1) := by decide +kernel
theorem dX12_isAlive_9 : decode cX12_isAlive 9 = .ok (.iconst (-1), 1) := by decide +kernel
theorem dX12_isAlive_10 : decode cX12_isAlive 10 = .ok (.if_icmp .eq 7, 3) := by decide +kernel
theorem dX12_isAlive_13 : decode cX12_isAlive 13 = .ok (.iconst 1, 1) := by decide +kernel
theorem dX12_isAlive_14 : decode cX12_isAlive 14 = .ok (.goto 4, 3) := by decide +kernel
theorem dX12_isAlive_17 : decode cX12_isAlive 17 = .ok (.iconst 0, 1) := by decide +kernel
theorem dX12_isAlive_18 : decode cX12_isAlive 18 = .ok (.ireturn, 1) := by decide +kernel
theorem dX12_isLife_0 : decode cX12_isLife 0 = .ok (.iload_n 0, 1) := by decide +kernel
theorem dX12_isLife_1 : decode cX12_isLife 1 = .ok (.i2l, 1) := by decide +kernel
theorem dX12_isLife_2 : decode cX12_isLife 2 = .ok (.lconst 0, 1) := by decide +kernel
theorem dX12_isLife_3 : decode cX12_isLife 3 = .ok (.ldc2_w 188, 3) := by decide +kernel
theorem dX12_isLife_6 : decode cX12_isLife 6 = .ok (.invokestatic 181, 3) := by decide +kernel
theorem dX12_isLife_9 : decode cX12_isLife 9 = .ok (.ireturn, 1) := by decide +kernel
theorem dX12_spentOf_0 : decode cX12_spentOf 0 = .ok (.bipush 9, 2) := by decide +kernel
theorem dX12_spentOf_2 : decode cX12_spentOf 2 = .ok (.aload_n 0, 1) := by decide +kernel
theorem dX12_spentOf_3 : decode cX12_spentOf 3 = .ok (.getfield 13, 3) := by decide +kernel
theorem dX12_spentOf_6 : decode cX12_spentOf 6 = .ok (.bipush 14, 2) := by decide +kernel
theorem dX12_spentOf_8 : decode cX12_spentOf 8 = .ok (.iload_n 1, 1) := by decide +kernel
theorem dX12_spentOf_9 : decode cX12_spentOf 9 = .ok (.iadd, 1) := by decide +kernel
theorem dX12_spentOf_10 : decode cX12_spentOf 10 = .ok (.iaload, 1) := by decide +kernel
theorem dX12_spentOf_11 : decode cX12_spentOf 11 = .ok (.invokestatic 190, 3) := by decide +kernel
theorem dX12_spentOf_14 : decode cX12_spentOf 14 = .ok (.isub, 1) := by decide +kernel
theorem dX12_spentOf_15 : decode cX12_spentOf 15 = .ok (.aload_n 0, 1) := by decide +kernel
theorem dX12_spentOf_16 : decode cX12_spentOf 16 = .ok (.iload_n 1, 1) := by decide +kernel
theorem dX12_spentOf_17 : decode cX12_spentOf 17 = .ok (.invokevirtual 193, 3) := by decide +kernel
theorem dX12_spentOf_20 : decode cX12_spentOf 20 = .ok (.ifCond .eq 7, 3) := by decide +kernel
theorem dX12_spentOf_23 : decode cX12_spentOf 23 = .ok (.iconst 1, 1) := by decide +kernel
theorem dX12_spentOf_24 : decode cX12_spentOf 24 = .ok (.goto 4, 3) := by decide +kernel
theorem dX12_spentOf_27 : decode cX12_spentOf 27 = .ok (.iconst 0, 1) := by decide +kernel
theorem dX12_spentOf_28 : decode cX12_spentOf 28 = .ok (.isub, 1) := by decide +kernel
theorem dX12_spentOf_29 : decode cX12_spentOf 29 = .ok (.ireturn, 1) := by decide +kernel
theorem dX12_crewOf_0 : decode cX12_crewOf 0 = .ok (.iconst 0, 1) := by decide +kernel
theorem dX12_crewOf_1 : decode cX12_crewOf 1 = .ok (.istore_n 2, 1) := by decide +kernel
theorem dX12_crewOf_2 : decode cX12_crewOf 2 = .ok (.iconst 0, 1) := by decide +kernel
theorem dX12_crewOf_3 : decode cX12_crewOf 3 = .ok (.istore_n 3, 1) := by decide +kernel
theorem dX12_crewOf_4 : decode cX12_crewOf 4 = .ok (.iload_n 3, 1) := by decide +kernel
theorem dX12_crewOf_5 : decode cX12_crewOf 5 = .ok (.aload_n 0, 1) := by decide +kernel
theorem dX12_crewOf_6 : decode cX12_crewOf 6 = .ok (.getfield 13, 3) := by decide +kernel
theorem dX12_crewOf_9 : decode cX12_crewOf 9 = .ok (.iconst 0, 1) := by decide +kernel
theorem dX12_crewOf_10 : decode cX12_crewOf 10 = .ok (.iaload, 1) := by decide +kernel
theorem dX12_crewOf_11 : decode cX12_crewOf 11 = .ok (.if_icmp .ge 32, 3) := by decide +kernel
theorem dX12_crewOf_14 : decode cX12_crewOf 14 = .ok (.iload_n 2, 1) := by decide +kernel
theorem dX12_crewOf_15 : decode cX12_crewOf 15 = .ok (.aload_n 0, 1) := by decide +kernel
theorem dX12_crewOf_16 : decode cX12_crewOf 16 = .ok (.getfield 13, 3) := by decide +kernel
theorem dX12_crewOf_19 : decode cX12_crewOf 19 = .ok (.bipush 32, 2) := by decide +kernel
theorem dX12_crewOf_21 : decode cX12_crewOf 21 = .ok (.iload_n 3, 1) := by decide +kernel
theorem dX12_crewOf_22 : decode cX12_crewOf 22 = .ok (.iadd, 1) := by decide +kernel
theorem dX12_crewOf_23 : decode cX12_crewOf 23 = .ok (.iaload, 1) := by decide +kernel
theorem dX12_crewOf_24 : decode cX12_crewOf 24 = .ok (.iload_n 1, 1) := by decide +kernel
theorem dX12_crewOf_25 : decode cX12_crewOf 25 = .ok (.if_icmp .ne 9, 3) := by decide +kernel
theorem dX12_crewOf_28 : decode cX12_crewOf 28 = .ok (.iconst 1, 1) := by decide +kernel
theorem dX12_crewOf_29 : decode cX12_crewOf 29 = .ok (.iload_n 3, 1) := by decide +kernel
theorem dX12_crewOf_30 : decode cX12_crewOf 30 = .ok (.ishl, 1) := by decide +kernel
theorem dX12_crewOf_31 : decode cX12_crewOf 31 = .ok (.goto 4, 3) := by decide +kernel
theorem dX12_crewOf_34 : decode cX12_crewOf 34 = .ok (.iconst 0, 1) := by decide +kernel
theorem dX12_crewOf_35 : decode cX12_crewOf 35 = .ok (.ior, 1) := by decide +kernel
theorem dX12_crewOf_36 : decode cX12_crewOf 36 = .ok (.istore_n 2, 1) := by decide +kernel
theorem dX12_crewOf_37 : decode cX12_crewOf 37 = .ok (.iinc 3 1, 3) := by decide +kernel
theorem dX12_crewOf_40 : decode cX12_crewOf 40 = .ok (.goto (-36), 3) := by decide +kernel
theorem dX12_crewOf_43 : decode cX12_crewOf 43 = .ok (.iload_n 2, 1) := by decide +kernel
theorem dX12_crewOf_44 : decode cX12_crewOf 44 = .ok (.ireturn, 1) := by decide +kernel
theorem dX12_livesOf_0 : decode cX12_livesOf 0 = .ok (.iconst 0, 1) := by decide +kernel
theorem dX12_livesOf_1 : decode cX12_livesOf 1 = .ok (.istore_n 2, 1) := by decide +kernel
theorem dX12_livesOf_2 : decode cX12_livesOf 2 = .ok (.iconst 0, 1) := by decide +kernel
theorem dX12_livesOf_3 : decode cX12_livesOf 3 = .ok (.istore_n 3, 1) := by decide +kernel
theorem dX12_livesOf_4 : decode cX12_livesOf 4 = .ok (.iload_n 3, 1) := by decide +kernel
theorem dX12_livesOf_5 : decode cX12_livesOf 5 = .ok (.aload_n 0, 1) := by decide +kernel
theorem dX12_livesOf_6 : decode cX12_livesOf 6 = .ok (.getfield 13, 3) := by decide +kernel
theorem dX12_livesOf_9 : decode cX12_livesOf 9 = .ok (.iconst 0, 1) := by decide +kernel
theorem dX12_livesOf_10 : decode cX12_livesOf 10 = .ok (.iaload, 1) := by decide +kernel
theorem dX12_livesOf_11 : decode cX12_livesOf 11 = .ok (.if_icmp .ge 43, 3) := by decide +kernel
theorem dX12_livesOf_14 : decode cX12_livesOf 14 = .ok (.iload_n 2, 1) := by decide +kernel
theorem dX12_livesOf_15 : decode cX12_livesOf 15 = .ok (.iload_n 1, 1) := by decide +kernel
theorem dX12_livesOf_16 : decode cX12_livesOf 16 = .ok (.iload_n 3, 1) := by decide +kernel
theorem dX12_livesOf_17 : decode cX12_livesOf 17 = .ok (.invokestatic 197, 3) := by decide +kernel
theorem dX12_livesOf_20 : decode cX12_livesOf 20 = .ok (.ifCond .eq 25, 3) := by decide +kernel
theorem dX12_livesOf_23 : decode cX12_livesOf 23 = .ok (.aload_n 0, 1) := by decide +kernel
theorem dX12_livesOf_24 : decode cX12_livesOf 24 = .ok (.iload_n 3, 1) := by decide +kernel
theorem dX12_livesOf_25 : decode cX12_livesOf 25 = .ok (.invokevirtual 193, 3) := by decide +kernel
theorem dX12_livesOf_28 : decode cX12_livesOf 28 = .ok (.ifCond .eq 17, 3) := by decide +kernel
theorem dX12_livesOf_31 : decode cX12_livesOf 31 = .ok (.iconst 1, 1) := by decide +kernel
theorem dX12_livesOf_32 : decode cX12_livesOf 32 = .ok (.aload_n 0, 1) := by decide +kernel
theorem dX12_livesOf_33 : decode cX12_livesOf 33 = .ok (.getfield 13, 3) := by decide +kernel
theorem dX12_livesOf_36 : decode cX12_livesOf 36 = .ok (.bipush 8, 2) := by decide +kernel
theorem dX12_livesOf_38 : decode cX12_livesOf 38 = .ok (.iload_n 3, 1) := by decide +kernel
theorem dX12_livesOf_39 : decode cX12_livesOf 39 = .ok (.iadd, 1) := by decide +kernel
theorem dX12_livesOf_40 : decode cX12_livesOf 40 = .ok (.iaload, 1) := by decide +kernel
theorem dX12_livesOf_41 : decode cX12_livesOf 41 = .ok (.ishl, 1) := by decide +kernel
theorem dX12_livesOf_42 : decode cX12_livesOf 42 = .ok (.goto 4, 3) := by decide +kernel
theorem dX12_livesOf_45 : decode cX12_livesOf 45 = .ok (.iconst 0, 1) := by decide +kernel
theorem dX12_livesOf_46 : decode cX12_livesOf 46 = .ok (.ior, 1) := by decide +kernel
theorem dX12_livesOf_47 : decode cX12_livesOf 47 = .ok (.istore_n 2, 1) := by decide +kernel
theorem dX12_livesOf_48 : decode cX12_livesOf 48 = .ok (.iinc 3 1, 3) := by decide +kernel
theorem dX12_livesOf_51 : decode cX12_livesOf 51 = .ok (.goto (-47), 3) := by decide +kernel
theorem dX12_livesOf_54 : decode cX12_livesOf 54 = .ok (.iload_n 2, 1) := by decide +kernel
theorem dX12_livesOf_55 : decode cX12_livesOf 55 = .ok (.ireturn, 1) := by decide +kernel
theorem dX12_aliveOnes_0 : decode cX12_aliveOnes 0 = .ok (.iconst 0, 1) := by decide +kernel
theorem dX12_aliveOnes_1 : decode cX12_aliveOnes 1 = .ok (.istore_n 1, 1) := by decide +kernel
theorem dX12_aliveOnes_2 : decode cX12_aliveOnes 2 = .ok (.iconst 0, 1) := by decide +kernel
theorem dX12_aliveOnes_3 : decode cX12_aliveOnes 3 = .ok (.istore_n 2, 1) := by decide +kernel
theorem dX12_aliveOnes_4 : decode cX12_aliveOnes 4 = .ok (.iload_n 2, 1) := by decide +kernel
theorem dX12_aliveOnes_5 : decode cX12_aliveOnes 5 = .ok (.aload_n 0, 1) := by decide +kernel
theorem dX12_aliveOnes_6 : decode cX12_aliveOnes 6 = .ok (.getfield 13, 3) := by decide +kernel
theorem dX12_aliveOnes_9 : decode cX12_aliveOnes 9 = .ok (.iconst 0, 1) := by decide +kernel
theorem dX12_aliveOnes_10 : decode cX12_aliveOnes 10 = .ok (.iaload, 1) := by decide +kernel
theorem dX12_aliveOnes_11 : decode cX12_aliveOnes 11 = .ok (.if_icmp .ge 27, 3) := by decide +kernel
theorem dX12_aliveOnes_14 : decode cX12_aliveOnes 14 = .ok (.iload_n 1, 1) := by decide +kernel
theorem dX12_aliveOnes_15 : decode cX12_aliveOnes 15 = .ok (.aload_n 0, 1) := by decide +kernel
theorem dX12_aliveOnes_16 : decode cX12_aliveOnes 16 = .ok (.iload_n 2, 1) := by decide +kernel
theorem dX12_aliveOnes_17 : decode cX12_aliveOnes 17 = .ok (.invokevirtual 193, 3) := by decide +kernel
theorem dX12_aliveOnes_20 : decode cX12_aliveOnes 20 = .ok (.ifCond .eq 9, 3) := by decide +kernel
theorem dX12_aliveOnes_23 : decode cX12_aliveOnes 23 = .ok (.iconst 1, 1) := by decide +kernel
theorem dX12_aliveOnes_24 : decode cX12_aliveOnes 24 = .ok (.iload_n 2, 1) := by decide +kernel
theorem dX12_aliveOnes_25 : decode cX12_aliveOnes 25 = .ok (.ishl, 1) := by decide +kernel
theorem dX12_aliveOnes_26 : decode cX12_aliveOnes 26 = .ok (.goto 4, 3) := by decide +kernel
theorem dX12_aliveOnes_29 : decode cX12_aliveOnes 29 = .ok (.iconst 0, 1) := by decide +kernel
theorem dX12_aliveOnes_30 : decode cX12_aliveOnes 30 = .ok (.ior, 1) := by decide +kernel
theorem dX12_aliveOnes_31 : decode cX12_aliveOnes 31 = .ok (.istore_n 1, 1) := by decide +kernel
theorem dX12_aliveOnes_32 : decode cX12_aliveOnes 32 = .ok (.iinc 2 1, 3) := by decide +kernel
theorem dX12_aliveOnes_35 : decode cX12_aliveOnes 35 = .ok (.goto (-31), 3) := by decide +kernel
theorem dX12_aliveOnes_38 : decode cX12_aliveOnes 38 = .ok (.iload_n 1, 1) := by decide +kernel
theorem dX12_aliveOnes_39 : decode cX12_aliveOnes 39 = .ok (.ireturn, 1) := by decide +kernel
theorem dX12_come_0 : decode cX12_come 0 = .ok (.iload_n 1, 1) := by decide +kernel
theorem dX12_come_1 : decode cX12_come 1 = .ok (.invokestatic 201, 3) := by decide +kernel
theorem dX12_come_4 : decode cX12_come 4 = .ok (.ifCond .eq 27, 3) := by decide +kernel
theorem dX12_come_7 : decode cX12_come 7 = .ok (.iload_n 2, 1) := by decide +kernel
theorem dX12_come_8 : decode cX12_come 8 = .ok (.i2l, 1) := by decide +kernel
theorem dX12_come_9 : decode cX12_come 9 = .ok (.lconst 0, 1) := by decide +kernel
theorem dX12_come_10 : decode cX12_come 10 = .ok (.ldc2_w 188, 3) := by decide +kernel
theorem dX12_come_13 : decode cX12_come 13 = .ok (.invokestatic 181, 3) := by decide +kernel
theorem dX12_come_16 : decode cX12_come 16 = .ok (.ifCond .eq 15, 3) := by decide +kernel
theorem dX12_come_19 : decode cX12_come 19 = .ok (.iload_n 3, 1) := by decide +kernel
theorem dX12_come_20 : decode cX12_come 20 = .ok (.i2l, 1) := by decide +kernel
theorem dX12_come_21 : decode cX12_come 21 = .ok (.lconst 0, 1) := by decide +kernel
theorem dX12_come_22 : decode cX12_come 22 = .ok (.ldc2_w 204, 3) := by decide +kernel
theorem dX12_come_25 : decode cX12_come 25 = .ok (.invokestatic 181, 3) := by decide +kernel
theorem dX12_come_28 : decode cX12_come 28 = .ok (.ifCond .ne 5, 3) := by decide +kernel
theorem dX12_come_31 : decode cX12_come 31 = .ok (.iconst (-1), 1) := by decide +kernel
theorem dX12_come_32 : decode cX12_come 32 = .ok (.ireturn, 1) := by decide +kernel
theorem dX12_come_33 : decode cX12_come 33 = .ok (.aload_n 0, 1) := by decide +kernel
theorem dX12_come_34 : decode cX12_come 34 = .ok (.getfield 13, 3) := by decide +kernel
theorem dX12_come_37 : decode cX12_come 37 = .ok (.iconst 0, 1) := by decide +kernel
theorem dX12_come_38 : decode cX12_come 38 = .ok (.iaload, 1) := by decide +kernel
theorem dX12_come_39 : decode cX12_come 39 = .ok (.istore 4, 2) := by decide +kernel
theorem dX12_come_41 : decode cX12_come 41 = .ok (.iload 4, 2) := by decide +kernel
theorem dX12_come_43 : decode cX12_come 43 = .ok (.bipush 6, 2) := by decide +kernel
theorem dX12_come_45 : decode cX12_come 45 = .ok (.if_icmp .ne 6, 3) := by decide +kernel
theorem dX12_come_48 : decode cX12_come 48 = .ok (.bipush (-5), 2) := by decide +kernel
theorem dX12_come_50 : decode cX12_come 50 = .ok (.ireturn, 1) := by decide +kernel
theorem dX12_come_51 : decode cX12_come 51 = .ok (.aload_n 0, 1) := by decide +kernel
theorem dX12_come_52 : decode cX12_come 52 = .ok (.getfield 13, 3) := by decide +kernel
theorem dX12_come_55 : decode cX12_come 55 = .ok (.bipush 8, 2) := by decide +kernel
theorem dX12_come_57 : decode cX12_come 57 = .ok (.iload 4, 2) := by decide +kernel
theorem dX12_come_59 : decode cX12_come 59 = .ok (.iadd, 1) := by decide +kernel
theorem dX12_come_60 : decode cX12_come 60 = .ok (.iload_n 1, 1) := by decide +kernel
theorem dX12_come_61 : decode cX12_come 61 = .ok (.iastore, 1) := by decide +kernel
theorem dX12_come_62 : decode cX12_come 62 = .ok (.aload_n 0, 1) := by decide +kernel
theorem dX12_come_63 : decode cX12_come 63 = .ok (.getfield 13, 3) := by decide +kernel
theorem dX12_come_66 : decode cX12_come 66 = .ok (.bipush 14, 2) := by decide +kernel
theorem dX12_come_68 : decode cX12_come 68 = .ok (.iload 4, 2) := by decide +kernel
theorem dX12_come_70 : decode cX12_come 70 = .ok (.iadd, 1) := by decide +kernel
theorem dX12_come_71 : decode cX12_come 71 = .ok (.iconst 0, 1) := by decide +kernel
theorem dX12_come_72 : decode cX12_come 72 = .ok (.iastore, 1) := by decide +kernel
theorem dX12_come_73 : decode cX12_come 73 = .ok (.iload_n 2, 1) := by decide +kernel
theorem dX12_come_74 : decode cX12_come 74 = .ok (.istore 5, 2) := by decide +kernel
theorem dX12_come_76 : decode cX12_come 76 = .ok (.iconst 0, 1) := by decide +kernel
theorem dX12_come_77 : decode cX12_come 77 = .ok (.istore 6, 2) := by decide +kernel
theorem dX12_come_79 : decode cX12_come 79 = .ok (.iload 6, 2) := by decide +kernel
theorem dX12_come_81 : decode cX12_come 81 = .ok (.bipush 9, 2) := by decide +kernel
theorem dX12_come_83 : decode cX12_come 83 = .ok (.if_icmp .ge 40, 3) := by decide +kernel
theorem dX12_come_86 : decode cX12_come 86 = .ok (.iload 5, 2) := by decide +kernel
theorem dX12_come_88 : decode cX12_come 88 = .ok (.ifCond .le 35, 3) := by decide +kernel
theorem dX12_come_91 : decode cX12_come 91 = .ok (.iload 6, 2) := by decide +kernel
theorem dX12_come_93 : decode cX12_come 93 = .ok (.iload_n 1, 1) := by decide +kernel
theorem dX12_come_94 : decode cX12_come 94 = .ok (.if_icmp .eq 23, 3) := by decide +kernel
theorem dX12_come_97 : decode cX12_come 97 = .ok (.aload_n 0, 1) := by decide +kernel
theorem dX12_come_98 : decode cX12_come 98 = .ok (.getfield 13, 3) := by decide +kernel
theorem dX12_come_101 : decode cX12_come 101 = .ok (.bipush 14, 2) := by decide +kernel
theorem dX12_come_103 : decode cX12_come 103 = .ok (.iload 4, 2) := by decide +kernel
theorem dX12_come_105 : decode cX12_come 105 = .ok (.iadd, 1) := by decide +kernel
theorem dX12_come_106 : decode cX12_come 106 = .ok (.dup2, 1) := by decide +kernel
theorem dX12_come_107 : decode cX12_come 107 = .ok (.iaload, 1) := by decide +kernel
theorem dX12_come_108 : decode cX12_come 108 = .ok (.iconst 1, 1) := by decide +kernel
theorem dX12_come_109 : decode cX12_come 109 = .ok (.iload 6, 2) := by decide +kernel
theorem dX12_come_111 : decode cX12_come 111 = .ok (.ishl, 1) := by decide +kernel
theorem dX12_come_112 : decode cX12_come 112 = .ok (.ior, 1) := by decide +kernel
theorem dX12_come_113 : decode cX12_come 113 = .ok (.iastore, 1) := by decide +kernel
theorem dX12_come_114 : decode cX12_come 114 = .ok (.iinc 5 (-1), 3) := by decide +kernel
theorem dX12_come_117 : decode cX12_come 117 = .ok (.iinc 6 1, 3) := by decide +kernel
theorem dX12_come_120 : decode cX12_come 120 = .ok (.goto (-41), 3) := by decide +kernel
theorem dX12_come_123 : decode cX12_come 123 = .ok (.aload_n 0, 1) := by decide +kernel
theorem dX12_come_124 : decode cX12_come 124 = .ok (.getfield 13, 3) := by decide +kernel
theorem dX12_come_127 : decode cX12_come 127 = .ok (.bipush 20, 2) := by decide +kernel
theorem dX12_come_129 : decode cX12_come 129 = .ok (.iload 4, 2) := by decide +kernel
theorem dX12_come_131 : decode cX12_come 131 = .ok (.iadd, 1) := by decide +kernel
theorem dX12_come_132 : decode cX12_come 132 = .ok (.iload_n 3, 1) := by decide +kernel
theorem dX12_come_133 : decode cX12_come 133 = .ok (.iastore, 1) := by decide +kernel
theorem dX12_come_134 : decode cX12_come 134 = .ok (.aload_n 0, 1) := by decide +kernel
theorem dX12_come_135 : decode cX12_come 135 = .ok (.getfield 13, 3) := by decide +kernel
theorem dX12_come_138 : decode cX12_come 138 = .ok (.bipush 26, 2) := by decide +kernel
theorem dX12_come_140 : decode cX12_come 140 = .ok (.iload 4, 2) := by decide +kernel
theorem dX12_come_142 : decode cX12_come 142 = .ok (.iadd, 1) := by decide +kernel
theorem dX12_come_143 : decode cX12_come 143 = .ok (.iconst 0, 1) := by decide +kernel
theorem dX12_come_144 : decode cX12_come 144 = .ok (.iastore, 1) := by decide +kernel
theorem dX12_come_145 : decode cX12_come 145 = .ok (.aload_n 0, 1) := by decide +kernel
theorem dX12_come_146 : decode cX12_come 146 = .ok (.getfield 13, 3) := by decide +kernel
theorem dX12_come_149 : decode cX12_come 149 = .ok (.bipush 32, 2) := by decide +kernel
theorem dX12_come_151 : decode cX12_come 151 = .ok (.iload 4, 2) := by decide +kernel
theorem dX12_come_153 : decode cX12_come 153 = .ok (.iadd, 1) := by decide +kernel
theorem dX12_come_154 : decode cX12_come 154 = .ok (.iconst (-1), 1) := by decide +kernel
theorem dX12_come_155 : decode cX12_come 155 = .ok (.iastore, 1) := by decide +kernel
theorem dX12_come_156 : decode cX12_come 156 = .ok (.aload_n 0, 1) := by decide +kernel
theorem dX12_come_157 : decode cX12_come 157 = .ok (.getfield 13, 3) := by decide +kernel
theorem dX12_come_160 : decode cX12_come 160 = .ok (.iconst 0, 1) := by decide +kernel
theorem dX12_come_161 : decode cX12_come 161 = .ok (.dup2, 1) := by decide +kernel
theorem dX12_come_162 : decode cX12_come 162 = .ok (.iaload, 1) := by decide +kernel
theorem dX12_come_163 : decode cX12_come 163 = .ok (.iconst 1, 1) := by decide +kernel
theorem dX12_come_164 : decode cX12_come 164 = .ok (.iadd, 1) := by decide +kernel
theorem dX12_come_165 : decode cX12_come 165 = .ok (.iastore, 1) := by decide +kernel
theorem dX12_come_166 : decode cX12_come 166 = .ok (.iload 4, 2) := by decide +kernel
theorem dX12_come_168 : decode cX12_come 168 = .ok (.ireturn, 1) := by decide +kernel
theorem dX12_cat_0 : decode cX12_cat 0 = .ok (.aload_n 0, 1) := by decide +kernel
theorem dX12_cat_1 : decode cX12_cat 1 = .ok (.iconst 0, 1) := by decide +kernel
theorem dX12_cat_2 : decode cX12_cat 2 = .ok (.putfield 161, 3) := by decide +kernel
theorem dX12_cat_5 : decode cX12_cat 5 = .ok (.aload_n 0, 1) := by decide +kernel
theorem dX12_cat_6 : decode cX12_cat 6 = .ok (.aload_n 0, 1) := by decide +kernel
theorem dX12_cat_7 : decode cX12_cat 7 = .ok (.iload_n 1, 1) := by decide +kernel
theorem dX12_cat_8 : decode cX12_cat 8 = .ok (.bipush 8, 2) := by decide +kernel
theorem dX12_cat_10 : decode cX12_cat 10 = .ok (.bipush 9, 2) := by decide +kernel
theorem dX12_cat_12 : decode cX12_cat 12 = .ok (.invokevirtual 206, 3) := by decide +kernel
theorem dX12_cat_15 : decode cX12_cat 15 = .ok (.invokevirtual 185, 3) := by decide +kernel
theorem dX12_cat_18 : decode cX12_cat 18 = .ok (.ireturn, 1) := by decide +kernel
theorem dX12_of_0 : decode cX12_of 0 = .ok (.aload_n 0, 1) := by decide +kernel
theorem dX12_of_1 : decode cX12_of 1 = .ok (.iconst 0, 1) := by decide +kernel
theorem dX12_of_2 : decode cX12_of 2 = .ok (.putfield 161, 3) := by decide +kernel
theorem dX12_of_5 : decode cX12_of 5 = .ok (.aload_n 0, 1) := by decide +kernel
theorem dX12_of_6 : decode cX12_of 6 = .ok (.iload_n 1, 1) := by decide +kernel
theorem dX12_of_7 : decode cX12_of 7 = .ok (.invokevirtual 210, 3) := by decide +kernel
theorem dX12_of_10 : decode cX12_of 10 = .ok (.ifCond .eq 16, 3) := by decide +kernel
theorem dX12_of_13 : decode cX12_of 13 = .ok (.iload_n 2, 1) := by decide +kernel
theorem dX12_of_14 : decode cX12_of 14 = .ok (.iconst 5, 1) := by decide +kernel
theorem dX12_of_15 : decode cX12_of 15 = .ok (.if_icmp .le 13, 3) := by decide +kernel
theorem dX12_of_18 : decode cX12_of 18 = .ok (.aload_n 0, 1) := by decide +kernel
theorem dX12_of_19 : decode cX12_of 19 = .ok (.iload_n 1, 1) := by decide +kernel
theorem dX12_of_20 : decode cX12_of 20 = .ok (.invokevirtual 193, 3) := by decide +kernel
theorem dX12_of_23 : decode cX12_of 23 = .ok (.ifCond .ne 5, 3) := by decide +kernel
theorem dX12_of_26 : decode cX12_of 26 = .ok (.iconst (-1), 1) := by decide +kernel
theorem dX12_of_27 : decode cX12_of 27 = .ok (.ireturn, 1) := by decide +kernel
theorem dX12_of_28 : decode cX12_of 28 = .ok (.iload_n 2, 1) := by decide +kernel
theorem dX12_of_29 : decode cX12_of 29 = .ok (.tableswitch 168 0 8 #[51, 61, 71, 81, 91, 101, 107, 127, 147], 51) := by decide +kernel
theorem dX12_of_80 : decode cX12_of 80 = .ok (.aload_n 0, 1) := by decide +kernel
theorem dX12_of_81 : decode cX12_of 81 = .ok (.getfield 13, 3) := by decide +kernel
theorem dX12_of_84 : decode cX12_of 84 = .ok (.bipush 8, 2) := by decide +kernel
theorem dX12_of_86 : decode cX12_of 86 = .ok (.iload_n 1, 1) := by decide +kernel
theorem dX12_of_87 : decode cX12_of 87 = .ok (.iadd, 1) := by decide +kernel
theorem dX12_of_88 : decode cX12_of 88 = .ok (.iaload, 1) := by decide +kernel
theorem dX12_of_89 : decode cX12_of 89 = .ok (.ireturn, 1) := by decide +kernel
theorem dX12_of_90 : decode cX12_of 90 = .ok (.aload_n 0, 1) := by decide +kernel
theorem dX12_of_91 : decode cX12_of 91 = .ok (.getfield 13, 3) := by decide +kernel
theorem dX12_of_94 : decode cX12_of 94 = .ok (.bipush 14, 2) := by decide +kernel
theorem dX12_of_96 : decode cX12_of 96 = .ok (.iload_n 1, 1) := by decide +kernel
theorem dX12_of_97 : decode cX12_of 97 = .ok (.iadd, 1) := by decide +kernel
theorem dX12_of_98 : decode cX12_of 98 = .ok (.iaload, 1) := by decide +kernel
theorem dX12_of_99 : decode cX12_of 99 = .ok (.ireturn, 1) := by decide +kernel
theorem dX12_of_100 : decode cX12_of 100 = .ok (.aload_n 0, 1) := by decide +kernel
theorem dX12_of_101 : decode cX12_of 101 = .ok (.getfield 13, 3) := by decide +kernel
theorem dX12_of_104 : decode cX12_of 104 = .ok (.bipush 20, 2) := by decide +kernel
theorem dX12_of_106 : decode cX12_of 106 = .ok (.iload_n 1, 1) := by decide +kernel
theorem dX12_of_107 : decode cX12_of 107 = .ok (.iadd, 1) := by decide +kernel
theorem dX12_of_108 : decode cX12_of 108 = .ok (.iaload, 1) := by decide +kernel
theorem dX12_of_109 : decode cX12_of 109 = .ok (.ireturn, 1) := by decide +kernel
theorem dX12_of_110 : decode cX12_of 110 = .ok (.aload_n 0, 1) := by decide +kernel
theorem dX12_of_111 : decode cX12_of 111 = .ok (.getfield 13, 3) := by decide +kernel
theorem dX12_of_114 : decode cX12_of 114 = .ok (.bipush 26, 2) := by decide +kernel
theorem dX12_of_116 : decode cX12_of 116 = .ok (.iload_n 1, 1) := by decide +kernel
theorem dX12_of_117 : decode cX12_of 117 = .ok (.iadd, 1) := by decide +kernel
theorem dX12_of_118 : decode cX12_of 118 = .ok (.iaload, 1) := by decide +kernel
theorem dX12_of_119 : decode cX12_of 119 = .ok (.ireturn, 1) := by decide +kernel
theorem dX12_of_120 : decode cX12_of 120 = .ok (.aload_n 0, 1) := by decide +kernel
theorem dX12_of_121 : decode cX12_of 121 = .ok (.getfield 13, 3) := by decide +kernel
theorem dX12_of_124 : decode cX12_of 124 = .ok (.bipush 32, 2) := by decide +kernel
theorem dX12_of_126 : decode cX12_of 126 = .ok (.iload_n 1, 1) := by decide +kernel
theorem dX12_of_127 : decode cX12_of 127 = .ok (.iadd, 1) := by decide +kernel
theorem dX12_of_128 : decode cX12_of 128 = .ok (.iaload, 1) := by decide +kernel
theorem dX12_of_129 : decode cX12_of 129 = .ok (.ireturn, 1) := by decide +kernel
theorem dX12_of_130 : decode cX12_of 130 = .ok (.aload_n 0, 1) := by decide +kernel
theorem dX12_of_131 : decode cX12_of 131 = .ok (.iload_n 1, 1) := by decide +kernel
theorem dX12_of_132 : decode cX12_of 132 = .ok (.invokevirtual 213, 3) := by decide +kernel
theorem dX12_of_135 : decode cX12_of 135 = .ok (.ireturn, 1) := by decide +kernel
theorem dX12_of_136 : decode cX12_of 136 = .ok (.aload_n 0, 1) := by decide +kernel
theorem dX12_of_137 : decode cX12_of 137 = .ok (.iload_n 1, 1) := by decide +kernel
theorem dX12_of_138 : decode cX12_of 138 = .ok (.aload_n 0, 1) := by decide +kernel
theorem dX12_of_139 : decode cX12_of 139 = .ok (.getfield 13, 3) := by decide +kernel
theorem dX12_of_142 : decode cX12_of 142 = .ok (.bipush 8, 2) := by decide +kernel
theorem dX12_of_144 : decode cX12_of 144 = .ok (.iload_n 1, 1) := by decide +kernel
theorem dX12_of_145 : decode cX12_of 145 = .ok (.iadd, 1) := by decide +kernel
theorem dX12_of_146 : decode cX12_of 146 = .ok (.iaload, 1) := by decide +kernel
theorem dX12_of_147 : decode cX12_of 147 = .ok (.aload_n 0, 1) := by decide +kernel
theorem dX12_of_148 : decode cX12_of 148 = .ok (.iload_n 1, 1) := by decide +kernel
theorem dX12_of_149 : decode cX12_of 149 = .ok (.invokevirtual 213, 3) := by decide +kernel
theorem dX12_of_152 : decode cX12_of 152 = .ok (.invokevirtual 216, 3) := by decide +kernel
theorem dX12_of_155 : decode cX12_of 155 = .ok (.ireturn, 1) := by decide +kernel
theorem dX12_of_156 : decode cX12_of 156 = .ok (.aload_n 0, 1) := by decide +kernel
theorem dX12_of_157 : decode cX12_of 157 = .ok (.iload_n 1, 1) := by decide +kernel
theorem dX12_of_158 : decode cX12_of 158 = .ok (.aload_n 0, 1) := by decide +kernel
theorem dX12_of_159 : decode cX12_of 159 = .ok (.getfield 13, 3) := by decide +kernel
theorem dX12_of_162 : decode cX12_of 162 = .ok (.bipush 8, 2) := by decide +kernel
theorem dX12_of_164 : decode cX12_of 164 = .ok (.iload_n 1, 1) := by decide +kernel
theorem dX12_of_165 : decode cX12_of 165 = .ok (.iadd, 1) := by decide +kernel
theorem dX12_of_166 : decode cX12_of 166 = .ok (.iaload, 1) := by decide +kernel
theorem dX12_of_167 : decode cX12_of 167 = .ok (.aload_n 0, 1) := by decide +kernel
theorem dX12_of_168 : decode cX12_of 168 = .ok (.iload_n 1, 1) := by decide +kernel
theorem dX12_of_169 : decode cX12_of 169 = .ok (.invokevirtual 213, 3) := by decide +kernel
theorem dX12_of_172 : decode cX12_of 172 = .ok (.invokevirtual 219, 3) := by decide +kernel
theorem dX12_of_175 : decode cX12_of 175 = .ok (.ireturn, 1) := by decide +kernel
theorem dX12_of_176 : decode cX12_of 176 = .ok (.aload_n 0, 1) := by decide +kernel
theorem dX12_of_177 : decode cX12_of 177 = .ok (.iload_n 1, 1) := by decide +kernel
theorem dX12_of_178 : decode cX12_of 178 = .ok (.aload_n 0, 1) := by decide +kernel
theorem dX12_of_179 : decode cX12_of 179 = .ok (.getfield 13, 3) := by decide +kernel
theorem dX12_of_182 : decode cX12_of 182 = .ok (.bipush 8, 2) := by decide +kernel
theorem dX12_of_184 : decode cX12_of 184 = .ok (.iload_n 1, 1) := by decide +kernel
theorem dX12_of_185 : decode cX12_of 185 = .ok (.iadd, 1) := by decide +kernel
theorem dX12_of_186 : decode cX12_of 186 = .ok (.iaload, 1) := by decide +kernel
theorem dX12_of_187 : decode cX12_of 187 = .ok (.aload_n 0, 1) := by decide +kernel
theorem dX12_of_188 : decode cX12_of 188 = .ok (.iload_n 1, 1) := by decide +kernel
theorem dX12_of_189 : decode cX12_of 189 = .ok (.invokevirtual 213, 3) := by decide +kernel
theorem dX12_of_192 : decode cX12_of 192 = .ok (.iconst 0, 1) := by decide +kernel
theorem dX12_of_193 : decode cX12_of 193 = .ok (.invokevirtual 222, 3) := by decide +kernel
theorem dX12_of_196 : decode cX12_of 196 = .ok (.ireturn, 1) := by decide +kernel
theorem dX12_of_197 : decode cX12_of 197 = .ok (.iconst (-1), 1) := by decide +kernel
theorem dX12_of_198 : decode cX12_of 198 = .ok (.ireturn, 1) := by decide +kernel
theorem dX12_ship_0 : decode cX12_ship 0 = .ok (.aload_n 0, 1) := by decide +kernel
theorem dX12_ship_1 : decode cX12_ship 1 = .ok (.iconst 0, 1) := by decide +kernel
theorem dX12_ship_2 : decode cX12_ship 2 = .ok (.putfield 161, 3) := by decide +kernel
theorem dX12_ship_5 : decode cX12_ship 5 = .ok (.iload_n 1, 1) := by decide +kernel
theorem dX12_ship_6 : decode cX12_ship 6 = .ok (.i2l, 1) := by decide +kernel
theorem dX12_ship_7 : decode cX12_ship 7 = .ok (.lconst 0, 1) := by decide +kernel
theorem dX12_ship_8 : decode cX12_ship 8 = .ok (.ldc2_w 226, 3) := by decide +kernel
theorem dX12_ship_11 : decode cX12_ship 11 = .ok (.invokestatic 181, 3) := by decide +kernel
theorem dX12_ship_14 : decode cX12_ship 14 = .ok (.ifCond .ne 9, 3) := by decide +kernel
theorem dX12_ship_17 : decode cX12_ship 17 = .ok (.aload_n 0, 1) := by decide +kernel
theorem dX12_ship_18 : decode cX12_ship 18 = .ok (.iconst (-1), 1) := by decide +kernel
theorem dX12_ship_19 : decode cX12_ship 19 = .ok (.invokevirtual 170, 3) := by decide +kernel
theorem dX12_ship_22 : decode cX12_ship 22 = .ok (.ireturn, 1) := by decide +kernel
theorem dX12_ship_23 : decode cX12_ship 23 = .ok (.aload_n 0, 1) := by decide +kernel
theorem dX12_ship_24 : decode cX12_ship 24 = .ok (.getfield 13, 3) := by decide +kernel
theorem dX12_ship_27 : decode cX12_ship 27 = .ok (.iconst 1, 1) := by decide +kernel
theorem dX12_ship_28 : decode cX12_ship 28 = .ok (.iaload, 1) := by decide +kernel
theorem dX12_ship_29 : decode cX12_ship 29 = .ok (.istore_n 2, 1) := by decide +kernel
theorem dX12_ship_30 : decode cX12_ship 30 = .ok (.iload_n 2, 1) := by decide +kernel
theorem dX12_ship_31 : decode cX12_ship 31 = .ok (.iconst 3, 1) := by decide +kernel
theorem dX12_ship_32 : decode cX12_ship 32 = .ok (.if_icmp .ne 10, 3) := by decide +kernel
theorem dX12_ship_35 : decode cX12_ship 35 = .ok (.aload_n 0, 1) := by decide +kernel
theorem dX12_ship_36 : decode cX12_ship 36 = .ok (.bipush (-5), 2) := by decide +kernel
theorem dX12_ship_38 : decode cX12_ship 38 = .ok (.invokevirtual 170, 3) := by decide +kernel
theorem dX12_ship_41 : decode cX12_ship 41 = .ok (.ireturn, 1) := by decide +kernel
theorem dX12_ship_42 : decode cX12_ship 42 = .ok (.aload_n 0, 1) := by decide +kernel
theorem dX12_ship_43 : decode cX12_ship 43 = .ok (.getfield 13, 3) := by decide +kernel
theorem dX12_ship_46 : decode cX12_ship 46 = .ok (.bipush 38, 2) := by decide +kernel
theorem dX12_ship_48 : decode cX12_ship 48 = .ok (.iload_n 2, 1) := by decide +kernel
theorem dX12_ship_49 : decode cX12_ship 49 = .ok (.iadd, 1) := by decide +kernel
theorem dX12_ship_50 : decode cX12_ship 50 = .ok (.iload_n 1, 1) := by decide +kernel
theorem dX12_ship_51 : decode cX12_ship 51 = .ok (.iastore, 1) := by decide +kernel
theorem dX12_ship_52 : decode cX12_ship 52 = .ok (.aload_n 0, 1) := by decide +kernel
theorem dX12_ship_53 : decode cX12_ship 53 = .ok (.getfield 13, 3) := by decide +kernel
theorem dX12_ship_56 : decode cX12_ship 56 = .ok (.iconst 1, 1) := by decide +kernel
theorem dX12_ship_57 : decode cX12_ship 57 = .ok (.dup2, 1) := by decide +kernel
theorem dX12_ship_58 : decode cX12_ship 58 = .ok (.iaload, 1) := by decide +kernel
theorem dX12_ship_59 : decode cX12_ship 59 = .ok (.iconst 1, 1) := by decide +kernel
theorem dX12_ship_60 : decode cX12_ship 60 = .ok (.iadd, 1) := by decide +kernel
theorem dX12_ship_61 : decode cX12_ship 61 = .ok (.iastore, 1) := by decide +kernel
theorem dX12_ship_62 : decode cX12_ship 62 = .ok (.aload_n 0, 1) := by decide +kernel
theorem dX12_ship_63 : decode cX12_ship 63 = .ok (.iload_n 2, 1) := by decide +kernel
theorem dX12_ship_64 : decode cX12_ship 64 = .ok (.invokevirtual 170, 3) := by decide +kernel
theorem dX12_ship_67 : decode cX12_ship 67 = .ok (.ireturn, 1) := by decide +kernel
theorem dX12_at_0 : decode cX12_at 0 = .ok (.aload_n 0, 1) := by decide +kernel
theorem dX12_at_1 : decode cX12_at 1 = .ok (.iconst 0, 1) := by decide +kernel
theorem dX12_at_2 : decode cX12_at 2 = .ok (.putfield 161, 3) := by decide +kernel
theorem dX12_at_5 : decode cX12_at 5 = .ok (.aload_n 0, 1) := by decide +kernel
theorem dX12_at_6 : decode cX12_at 6 = .ok (.iload_n 1, 1) := by decide +kernel
theorem dX12_at_7 : decode cX12_at 7 = .ok (.invokevirtual 228, 3) := by decide +kernel
theorem dX12_at_10 : decode cX12_at 10 = .ok (.ifCond .ne 5, 3) := by decide +kernel
theorem dX12_at_13 : decode cX12_at 13 = .ok (.iconst (-1), 1) := by decide +kernel
theorem dX12_at_14 : decode cX12_at 14 = .ok (.ireturn, 1) := by decide +kernel
theorem dX12_at_15 : decode cX12_at 15 = .ok (.iload_n 2, 1) := by decide +kernel
theorem dX12_at_16 : decode cX12_at 16 = .ok (.tableswitch 76 0 3 #[32, 42, 48, 70], 32) := by decide +kernel
theorem dX12_at_48 : decode cX12_at 48 = .ok (.aload_n 0, 1) := by decide +kernel
theorem dX12_at_49 : decode cX12_at 49 = .ok (.getfield 13, 3) := by decide +kernel
theorem dX12_at_52 : decode cX12_at 52 = .ok (.bipush 38, 2) := by decide +kernel
theorem dX12_at_54 : decode cX12_at 54 = .ok (.iload_n 1, 1) := by decide +kernel
theorem dX12_at_55 : decode cX12_at 55 = .ok (.iadd, 1) := by decide +kernel
theorem dX12_at_56 : decode cX12_at 56 = .ok (.iaload, 1) := by decide +kernel
theorem dX12_at_57 : decode cX12_at 57 = .ok (.ireturn, 1) := by decide +kernel
theorem dX12_at_58 : decode cX12_at 58 = .ok (.aload_n 0, 1) := by decide +kernel
theorem dX12_at_59 : decode cX12_at 59 = .ok (.iload_n 1, 1) := by decide +kernel
theorem dX12_at_60 : decode cX12_at 60 = .ok (.invokevirtual 231, 3) := by decide +kernel
theorem dX12_at_63 : decode cX12_at 63 = .ok (.ireturn, 1) := by decide +kernel
theorem dX12_at_64 : decode cX12_at 64 = .ok (.aload_n 0, 1) := by decide +kernel
theorem dX12_at_65 : decode cX12_at 65 = .ok (.getfield 13, 3) := by decide +kernel
theorem dX12_at_68 : decode cX12_at 68 = .ok (.bipush 38, 2) := by decide +kernel
theorem dX12_at_70 : decode cX12_at 70 = .ok (.iload_n 1, 1) := by decide +kernel
theorem dX12_at_71 : decode cX12_at 71 = .ok (.iadd, 1) := by decide +kernel
theorem dX12_at_72 : decode cX12_at 72 = .ok (.iaload, 1) := by decide +kernel
theorem dX12_at_73 : decode cX12_at 73 = .ok (.aload_n 0, 1) := by decide +kernel
theorem dX12_at_74 : decode cX12_at 74 = .ok (.aload_n 0, 1) := by decide +kernel
theorem dX12_at_75 : decode cX12_at 75 = .ok (.iload_n 1, 1) := by decide +kernel
theorem dX12_at_76 : decode cX12_at 76 = .ok (.invokevirtual 231, 3) := by decide +kernel
theorem dX12_at_79 : decode cX12_at 79 = .ok (.invokevirtual 234, 3) := by decide +kernel
theorem dX12_at_82 : decode cX12_at 82 = .ok (.iconst (-1), 1) := by decide +kernel
theorem dX12_at_83 : decode cX12_at 83 = .ok (.ixor, 1) := by decide +kernel
theorem dX12_at_84 : decode cX12_at 84 = .ok (.iand, 1) := by decide +kernel
theorem dX12_at_85 : decode cX12_at 85 = .ok (.ireturn, 1) := by decide +kernel
theorem dX12_at_86 : decode cX12_at 86 = .ok (.aload_n 0, 1) := by decide +kernel
theorem dX12_at_87 : decode cX12_at 87 = .ok (.iload_n 1, 1) := by decide +kernel
theorem dX12_at_88 : decode cX12_at 88 = .ok (.invokevirtual 237, 3) := by decide +kernel
theorem dX12_at_91 : decode cX12_at 91 = .ok (.ireturn, 1) := by decide +kernel
theorem dX12_at_92 : decode cX12_at 92 = .ok (.iconst (-1), 1) := by decide +kernel
theorem dX12_at_93 : decode cX12_at 93 = .ok (.ireturn, 1) := by decide +kernel
theorem dX12_terms_0 : decode cX12_terms 0 = .ok (.aload_n 0, 1) := by decide +kernel
theorem dX12_terms_1 : decode cX12_terms 1 = .ok (.iconst 0, 1) := by decide +kernel
theorem dX12_terms_2 : decode cX12_terms 2 = .ok (.putfield 161, 3) := by decide +kernel
theorem dX12_terms_5 : decode cX12_terms 5 = .ok (.iload_n 1, 1) := by decide +kernel
theorem dX12_terms_6 : decode cX12_terms 6 = .ok (.ifCond .ne 15, 3) := by decide +kernel
theorem dX12_terms_9 : decode cX12_terms 9 = .ok (.iload_n 2, 1) := by decide +kernel
theorem dX12_terms_10 : decode cX12_terms 10 = .ok (.i2l, 1) := by decide +kernel
theorem dX12_terms_11 : decode cX12_terms 11 = .ok (.lconst 0, 1) := by decide +kernel
theorem dX12_terms_12 : decode cX12_terms 12 = .ok (.ldc2_w 240, 3) := by decide +kernel
theorem dX12_terms_15 : decode cX12_terms 15 = .ok (.invokestatic 181, 3) := by decide +kernel
theorem dX12_terms_18 : decode cX12_terms 18 = .ok (.goto 42, 3) := by decide +kernel
theorem dX12_terms_21 : decode cX12_terms 21 = .ok (.iload_n 1, 1) := by decide +kernel
theorem dX12_terms_22 : decode cX12_terms 22 = .ok (.iconst 1, 1) := by decide +kernel
theorem dX12_terms_23 : decode cX12_terms 23 = .ok (.if_icmp .ne 15, 3) := by decide +kernel
theorem dX12_terms_26 : decode cX12_terms 26 = .ok (.iload_n 2, 1) := by decide +kernel
theorem dX12_terms_27 : decode cX12_terms 27 = .ok (.i2l, 1) := by decide +kernel
theorem dX12_terms_28 : decode cX12_terms 28 = .ok (.lconst 0, 1) := by decide +kernel
theorem dX12_terms_29 : decode cX12_terms 29 = .ok (.ldc2_w 242, 3) := by decide +kernel
theorem dX12_terms_32 : decode cX12_terms 32 = .ok (.invokestatic 181, 3) := by decide +kernel
theorem dX12_terms_35 : decode cX12_terms 35 = .ok (.goto 25, 3) := by decide +kernel
theorem dX12_terms_38 : decode cX12_terms 38 = .ok (.iload_n 1, 1) := by decide +kernel
theorem dX12_terms_39 : decode cX12_terms 39 = .ok (.iconst 2, 1) := by decide +kernel
theorem dX12_terms_40 : decode cX12_terms 40 = .ok (.if_icmp .ne 19, 3) := by decide +kernel
theorem dX12_terms_43 : decode cX12_terms 43 = .ok (.iload_n 2, 1) := by decide +kernel
theorem dX12_terms_44 : decode cX12_terms 44 = .ok (.i2l, 1) := by decide +kernel
theorem dX12_terms_45 : decode cX12_terms 45 = .ok (.lconst 0, 1) := by decide +kernel
theorem dX12_terms_46 : decode cX12_terms 46 = .ok (.ldc2_w 204, 3) := by decide +kernel
theorem dX12_terms_49 : decode cX12_terms 49 = .ok (.invokestatic 181, 3) := by decide +kernel
theorem dX12_terms_52 : decode cX12_terms 52 = .ok (.ifCond .eq 7, 3) := by decide +kernel
theorem dX12_terms_55 : decode cX12_terms 55 = .ok (.iconst 1, 1) := by decide +kernel
theorem dX12_terms_56 : decode cX12_terms 56 = .ok (.goto 4, 3) := by decide +kernel
theorem dX12_terms_59 : decode cX12_terms 59 = .ok (.iconst 0, 1) := by decide +kernel
theorem dX12_terms_60 : decode cX12_terms 60 = .ok (.istore_n 3, 1) := by decide +kernel
theorem dX12_terms_61 : decode cX12_terms 61 = .ok (.iload_n 3, 1) := by decide +kernel
theorem dX12_terms_62 : decode cX12_terms 62 = .ok (.ifCond .ne 9, 3) := by decide +kernel
theorem dX12_terms_65 : decode cX12_terms 65 = .ok (.aload_n 0, 1) := by decide +kernel
theorem dX12_terms_66 : decode cX12_terms 66 = .ok (.iconst (-1), 1) := by decide +kernel
theorem dX12_terms_67 : decode cX12_terms 67 = .ok (.invokevirtual 170, 3) := by decide +kernel
theorem dX12_terms_70 : decode cX12_terms 70 = .ok (.ireturn, 1) := by decide +kernel
theorem dX12_terms_71 : decode cX12_terms 71 = .ok (.aload_n 0, 1) := by decide +kernel
theorem dX12_terms_72 : decode cX12_terms 72 = .ok (.iconst 0, 1) := by decide +kernel
theorem dX12_terms_73 : decode cX12_terms 73 = .ok (.putfield 167, 3) := by decide +kernel
theorem dX12_terms_76 : decode cX12_terms 76 = .ok (.aload_n 0, 1) := by decide +kernel
theorem dX12_terms_77 : decode cX12_terms 77 = .ok (.iconst 5, 1) := by decide +kernel
theorem dX12_terms_78 : decode cX12_terms 78 = .ok (.iload_n 1, 1) := by decide +kernel
theorem dX12_terms_79 : decode cX12_terms 79 = .ok (.iadd, 1) := by decide +kernel
theorem dX12_terms_80 : decode cX12_terms 80 = .ok (.iload_n 2, 1) := by decide +kernel
theorem dX12_terms_81 : decode cX12_terms 81 = .ok (.invokevirtual 244, 3) := by decide +kernel
theorem dX12_terms_84 : decode cX12_terms 84 = .ok (.ireturn, 1) := by decide +kernel
theorem dX12_row_0 : decode cX12_row 0 = .ok (.aload_n 0, 1) := by decide +kernel
theorem dX12_row_1 : decode cX12_row 1 = .ok (.iconst 0, 1) := by decide +kernel
theorem dX12_row_2 : decode cX12_row 2 = .ok (.putfield 161, 3) := by decide +kernel
theorem dX12_row_5 : decode cX12_row 5 = .ok (.aload_n 0, 1) := by decide +kernel
theorem dX12_row_6 : decode cX12_row 6 = .ok (.getfield 248, 3) := by decide +kernel
theorem dX12_row_9 : decode cX12_row 9 = .ok (.istore_n 1, 1) := by decide +kernel
theorem dX12_row_10 : decode cX12_row 10 = .ok (.aload_n 0, 1) := by decide +kernel
theorem dX12_row_11 : decode cX12_row 11 = .ok (.iconst 0, 1) := by decide +kernel
theorem dX12_row_12 : decode cX12_row 12 = .ok (.putfield 248, 3) := by decide +kernel
theorem dX12_row_15 : decode cX12_row 15 = .ok (.iload_n 1, 1) := by decide +kernel
theorem dX12_row_16 : decode cX12_row 16 = .ok (.ifCond .ne 10, 3) := by decide +kernel
theorem dX12_row_19 : decode cX12_row 19 = .ok (.aload_n 0, 1) := by decide +kernel
theorem dX12_row_20 : decode cX12_row 20 = .ok (.bipush (-6), 2) := by decide +kernel
theorem dX12_row_22 : decode cX12_row 22 = .ok (.invokevirtual 170, 3) := by decide +kernel
theorem dX12_row_25 : decode cX12_row 25 = .ok (.ireturn, 1) := by decide +kernel
theorem dX12_row_26 : decode cX12_row 26 = .ok (.aload_n 0, 1) := by decide +kernel
theorem dX12_row_27 : decode cX12_row 27 = .ok (.iconst 0, 1) := by decide +kernel
theorem dX12_row_28 : decode cX12_row 28 = .ok (.putfield 251, 3) := by decide +kernel
theorem dX12_row_31 : decode cX12_row 31 = .ok (.iconst 0, 1) := by decide +kernel
theorem dX12_row_32 : decode cX12_row 32 = .ok (.istore_n 2, 1) := by decide +kernel
theorem dX12_row_33 : decode cX12_row 33 = .ok (.iconst 0, 1) := by decide +kernel
theorem dX12_row_34 : decode cX12_row 34 = .ok (.istore_n 3, 1) := by decide +kernel
theorem dX12_row_35 : decode cX12_row 35 = .ok (.iload_n 3, 1) := by decide +kernel
theorem dX12_row_36 : decode cX12_row 36 = .ok (.iload_n 1, 1) := by decide +kernel
theorem dX12_row_37 : decode cX12_row 37 = .ok (.if_icmp .ge 61, 3) := by decide +kernel
theorem dX12_row_40 : decode cX12_row 40 = .ok (.iload_n 3, 1) := by decide +kernel
theorem dX12_row_41 : decode cX12_row 41 = .ok (.iconst 2, 1) := by decide +kernel
theorem dX12_row_42 : decode cX12_row 42 = .ok (.iadd, 1) := by decide +kernel
theorem dX12_row_43 : decode cX12_row 43 = .ok (.iload_n 1, 1) := by decide +kernel
theorem dX12_row_44 : decode cX12_row 44 = .ok (.if_icmp .ge 38, 3) := by decide +kernel
theorem dX12_row_47 : decode cX12_row 47 = .ok (.aload_n 0, 1) := by decide +kernel
theorem dX12_row_48 : decode cX12_row 48 = .ok (.aload_n 0, 1) := by decide +kernel
theorem dX12_row_49 : decode cX12_row 49 = .ok (.getfield 35, 3) := by decide +kernel
theorem dX12_row_52 : decode cX12_row 52 = .ok (.iload_n 3, 1) := by decide +kernel
theorem dX12_row_53 : decode cX12_row 53 = .ok (.iaload, 1) := by decide +kernel
theorem dX12_row_54 : decode cX12_row 54 = .ok (.aload_n 0, 1) := by decide +kernel
theorem dX12_row_55 : decode cX12_row 55 = .ok (.getfield 35, 3) := by decide +kernel
theorem dX12_row_58 : decode cX12_row 58 = .ok (.iload_n 3, 1) := by decide +kernel
theorem dX12_row_59 : decode cX12_row 59 = .ok (.iconst 1, 1) := by decide +kernel
theorem dX12_row_60 : decode cX12_row 60 = .ok (.iadd, 1) := by decide +kernel
theorem dX12_row_61 : decode cX12_row 61 = .ok (.iaload, 1) := by decide +kernel
theorem dX12_row_62 : decode cX12_row 62 = .ok (.aload_n 0, 1) := by decide +kernel
theorem dX12_row_63 : decode cX12_row 63 = .ok (.getfield 35, 3) := by decide +kernel
theorem dX12_row_66 : decode cX12_row 66 = .ok (.iload_n 3, 1) := by decide +kernel
theorem dX12_row_67 : decode cX12_row 67 = .ok (.iconst 2, 1) := by decide +kernel
theorem dX12_row_68 : decode cX12_row 68 = .ok (.iadd, 1) := by decide +kernel
theorem dX12_row_69 : decode cX12_row 69 = .ok (.iaload, 1) := by decide +kernel
theorem dX12_row_70 : decode cX12_row 70 = .ok (.invokevirtual 206, 3) := by decide +kernel
theorem dX12_row_73 : decode cX12_row 73 = .ok (.ifCond .lt 9, 3) := by decide +kernel
theorem dX12_row_76 : decode cX12_row 76 = .ok (.iinc 2 1, 3) := by decide +kernel
theorem dX12_row_79 : decode cX12_row 79 = .ok (.goto 13, 3) := by decide +kernel
theorem dX12_row_82 : decode cX12_row 82 = .ok (.aload_n 0, 1) := by decide +kernel
theorem dX12_row_83 : decode cX12_row 83 = .ok (.dup, 1) := by decide +kernel
theorem dX12_row_84 : decode cX12_row 84 = .ok (.getfield 251, 3) := by decide +kernel
theorem dX12_row_87 : decode cX12_row 87 = .ok (.iconst 1, 1) := by decide +kernel
theorem dX12_row_88 : decode cX12_row 88 = .ok (.iadd, 1) := by decide +kernel
theorem dX12_row_89 : decode cX12_row 89 = .ok (.putfield 251, 3) := by decide +kernel
theorem dX12_row_92 : decode cX12_row 92 = .ok (.iinc 3 3, 3) := by decide +kernel
theorem dX12_row_95 : decode cX12_row 95 = .ok (.goto (-60), 3) := by decide +kernel
theorem dX12_row_98 : decode cX12_row 98 = .ok (.aload_n 0, 1) := by decide +kernel
theorem dX12_row_99 : decode cX12_row 99 = .ok (.iload_n 2, 1) := by decide +kernel
theorem dX12_row_100 : decode cX12_row 100 = .ok (.invokevirtual 185, 3) := by decide +kernel
theorem dX12_row_103 : decode cX12_row 103 = .ok (.ireturn, 1) := by decide +kernel
theorem dX12_mice_0 : decode cX12_mice 0 = .ok (.aload_n 0, 1) := by decide +kernel
theorem dX12_mice_1 : decode cX12_mice 1 = .ok (.iconst 0, 1) := by decide +kernel
theorem dX12_mice_2 : decode cX12_mice 2 = .ok (.putfield 161, 3) := by decide +kernel
theorem dX12_mice_5 : decode cX12_mice 5 = .ok (.aload_n 0, 1) := by decide +kernel
theorem dX12_mice_6 : decode cX12_mice 6 = .ok (.getfield 251, 3) := by decide +kernel
theorem dX12_mice_9 : decode cX12_mice 9 = .ok (.ireturn, 1) := by decide +kernel
theorem dX12_four_0 : decode cX12_four 0 = .ok (.bipush 24, 2) := by decide +kernel
theorem dX12_four_2 : decode cX12_four 2 = .ok (.istore_n 2, 1) := by decide +kernel
theorem dX12_four_3 : decode cX12_four 3 = .ok (.iload_n 2, 1) := by decide +kernel
theorem dX12_four_4 : decode cX12_four 4 = .ok (.ifCond .lt 35, 3) := by decide +kernel
theorem dX12_four_7 : decode cX12_four 7 = .ok (.aload_n 0, 1) := by decide +kernel
theorem dX12_four_8 : decode cX12_four 8 = .ok (.getfield 35, 3) := by decide +kernel
theorem dX12_four_11 : decode cX12_four 11 = .ok (.aload_n 0, 1) := by decide +kernel
theorem dX12_four_12 : decode cX12_four 12 = .ok (.getfield 248, 3) := by decide +kernel
theorem dX12_four_15 : decode cX12_four 15 = .ok (.iload_n 1, 1) := by decide +kernel
theorem dX12_four_16 : decode cX12_four 16 = .ok (.iload_n 2, 1) := by decide +kernel
theorem dX12_four_17 : decode cX12_four 17 = .ok (.ishr, 1) := by decide +kernel
theorem dX12_four_18 : decode cX12_four 18 = .ok (.sipush 255, 3) := by decide +kernel
theorem dX12_four_21 : decode cX12_four 21 = .ok (.iand, 1) := by decide +kernel
theorem dX12_four_22 : decode cX12_four 22 = .ok (.iastore, 1) := by decide +kernel
theorem dX12_four_23 : decode cX12_four 23 = .ok (.aload_n 0, 1) := by decide +kernel
theorem dX12_four_24 : decode cX12_four 24 = .ok (.dup, 1) := by decide +kernel
theorem dX12_four_25 : decode cX12_four 25 = .ok (.getfield 248, 3) := by decide +kernel
theorem dX12_four_28 : decode cX12_four 28 = .ok (.iconst 1, 1) := by decide +kernel
theorem dX12_four_29 : decode cX12_four 29 = .ok (.iadd, 1) := by decide +kernel
theorem dX12_four_30 : decode cX12_four 30 = .ok (.putfield 248, 3) := by decide +kernel
theorem dX12_four_33 : decode cX12_four 33 = .ok (.iinc 2 (-8), 3) := by decide +kernel
theorem dX12_four_36 : decode cX12_four 36 = .ok (.goto (-33), 3) := by decide +kernel
theorem dX12_four_39 : decode cX12_four 39 = .ok (.return_, 1) := by decide +kernel
theorem dX12_feed_0 : decode cX12_feed 0 = .ok (.aload_n 0, 1) := by decide +kernel
theorem dX12_feed_1 : decode cX12_feed 1 = .ok (.iconst 0, 1) := by decide +kernel
theorem dX12_feed_2 : decode cX12_feed 2 = .ok (.putfield 161, 3) := by decide +kernel
theorem dX12_feed_5 : decode cX12_feed 5 = .ok (.aload_n 0, 1) := by decide +kernel
theorem dX12_feed_6 : decode cX12_feed 6 = .ok (.getfield 248, 3) := by decide +kernel
theorem dX12_feed_9 : decode cX12_feed 9 = .ok (.bipush 20, 2) := by decide +kernel
theorem dX12_feed_11 : decode cX12_feed 11 = .ok (.iadd, 1) := by decide +kernel
theorem dX12_feed_12 : decode cX12_feed 12 = .ok (.sipush 400, 3) := by decide +kernel
theorem dX12_feed_15 : decode cX12_feed 15 = .ok (.if_icmp .le 5, 3) := by decide +kernel
theorem dX12_feed_18 : decode cX12_feed 18 = .ok (.iconst (-1), 1) := by decide +kernel
theorem dX12_feed_19 : decode cX12_feed 19 = .ok (.ireturn, 1) := by decide +kernel
theorem dX12_feed_20 : decode cX12_feed 20 = .ok (.aload_n 0, 1) := by decide +kernel
theorem dX12_feed_21 : decode cX12_feed 21 = .ok (.iload_n 1, 1) := by decide +kernel
theorem dX12_feed_22 : decode cX12_feed 22 = .ok (.invokevirtual 254, 3) := by decide +kernel
theorem dX12_feed_25 : decode cX12_feed 25 = .ok (.aload_n 0, 1) := by decide +kernel
theorem dX12_feed_26 : decode cX12_feed 26 = .ok (.iload_n 2, 1) := by decide +kernel
theorem dX12_feed_27 : decode cX12_feed 27 = .ok (.invokevirtual 254, 3) := by decide +kernel
theorem dX12_feed_30 : decode cX12_feed 30 = .ok (.aload_n 0, 1) := by decide +kernel
theorem dX12_feed_31 : decode cX12_feed 31 = .ok (.iload_n 3, 1) := by decide +kernel
theorem dX12_feed_32 : decode cX12_feed 32 = .ok (.invokevirtual 254, 3) := by decide +kernel
theorem dX12_feed_35 : decode cX12_feed 35 = .ok (.aload_n 0, 1) := by decide +kernel
theorem dX12_feed_36 : decode cX12_feed 36 = .ok (.iload 4, 2) := by decide +kernel
theorem dX12_feed_38 : decode cX12_feed 38 = .ok (.invokevirtual 254, 3) := by decide +kernel
theorem dX12_feed_41 : decode cX12_feed 41 = .ok (.aload_n 0, 1) := by decide +kernel
theorem dX12_feed_42 : decode cX12_feed 42 = .ok (.iload 5, 2) := by decide +kernel
theorem dX12_feed_44 : decode cX12_feed 44 = .ok (.invokevirtual 254, 3) := by decide +kernel
theorem dX12_feed_47 : decode cX12_feed 47 = .ok (.aload_n 0, 1) := by decide +kernel
theorem dX12_feed_48 : decode cX12_feed 48 = .ok (.getfield 248, 3) := by decide +kernel
theorem dX12_feed_51 : decode cX12_feed 51 = .ok (.ireturn, 1) := by decide +kernel
theorem dX12_end_0 : decode cX12_end 0 = .ok (.aload_n 0, 1) := by decide +kernel
theorem dX12_end_1 : decode cX12_end 1 = .ok (.iconst 0, 1) := by decide +kernel
theorem dX12_end_2 : decode cX12_end 2 = .ok (.putfield 161, 3) := by decide +kernel
theorem dX12_end_5 : decode cX12_end 5 = .ok (.iload_n 1, 1) := by decide +kernel
theorem dX12_end_6 : decode cX12_end 6 = .ok (.ifCond .lt 11, 3) := by decide +kernel
theorem dX12_end_9 : decode cX12_end 9 = .ok (.iload_n 1, 1) := by decide +kernel
theorem dX12_end_10 : decode cX12_end 10 = .ok (.aload_n 0, 1) := by decide +kernel
theorem dX12_end_11 : decode cX12_end 11 = .ok (.getfield 248, 3) := by decide +kernel
theorem dX12_end_14 : decode cX12_end 14 = .ok (.if_icmp .le 5, 3) := by decide +kernel
theorem dX12_end_17 : decode cX12_end 17 = .ok (.iconst (-1), 1) := by decide +kernel
theorem dX12_end_18 : decode cX12_end 18 = .ok (.ireturn, 1) := by decide +kernel
theorem dX12_end_19 : decode cX12_end 19 = .ok (.aload_n 0, 1) := by decide +kernel
theorem dX12_end_20 : decode cX12_end 20 = .ok (.iload_n 1, 1) := by decide +kernel
theorem dX12_end_21 : decode cX12_end 21 = .ok (.putfield 248, 3) := by decide +kernel
theorem dX12_end_24 : decode cX12_end 24 = .ok (.iload_n 1, 1) := by decide +kernel
theorem dX12_end_25 : decode cX12_end 25 = .ok (.ireturn, 1) := by decide +kernel
theorem dX12_isSmall_0 : decode cX12_isSmall 0 = .ok (.iload_n 0, 1) := by decide +kernel
theorem dX12_isSmall_1 : decode cX12_isSmall 1 = .ok (.bipush 97, 2) := by decide +kernel
theorem dX12_isSmall_3 : decode cX12_isSmall 3 = .ok (.if_icmp .lt 13, 3) := by decide +kernel
theorem dX12_isSmall_6 : decode cX12_isSmall 6 = .ok (.iload_n 0, 1) := by decide +kernel
theorem dX12_isSmall_7 : decode cX12_isSmall 7 = .ok (.bipush 122, 2) := by decide +kernel
theorem dX12_isSmall_9 : decode cX12_isSmall 9 = .ok (.if_icmp .gt 7, 3) := by decide +kernel
theorem dX12_isSmall_12 : decode cX12_isSmall 12 = .ok (.iconst 1, 1) := by decide +kernel
theorem dX12_isSmall_13 : decode cX12_isSmall 13 = .ok (.goto 4, 3) := by decide +kernel
theorem dX12_isSmall_16 : decode cX12_isSmall 16 = .ok (.iconst 0, 1) := by decide +kernel
theorem dX12_isSmall_17 : decode cX12_isSmall 17 = .ok (.ireturn, 1) := by decide +kernel
theorem dX12_isDigit_0 : decode cX12_isDigit 0 = .ok (.iload_n 0, 1) := by decide +kernel
theorem dX12_isDigit_1 : decode cX12_isDigit 1 = .ok (.bipush 48, 2) := by decide +kernel
theorem dX12_isDigit_3 : decode cX12_isDigit 3 = .ok (.if_icmp .lt 13, 3) := by decide +kernel
theorem dX12_isDigit_6 : decode cX12_isDigit 6 = .ok (.iload_n 0, 1) := by decide +kernel
theorem dX12_isDigit_7 : decode cX12_isDigit 7 = .ok (.bipush 57, 2) := by decide +kernel
theorem dX12_isDigit_9 : decode cX12_isDigit 9 = .ok (.if_icmp .gt 7, 3) := by decide +kernel
theorem dX12_isDigit_12 : decode cX12_isDigit 12 = .ok (.iconst 1, 1) := by decide +kernel
theorem dX12_isDigit_13 : decode cX12_isDigit 13 = .ok (.goto 4, 3) := by decide +kernel
theorem dX12_isDigit_16 : decode cX12_isDigit 16 = .ok (.iconst 0, 1) := by decide +kernel
theorem dX12_isDigit_17 : decode cX12_isDigit 17 = .ok (.ireturn, 1) := by decide +kernel
theorem dX12_begin_0 : decode cX12_begin 0 = .ok (.aload_n 0, 1) := by decide +kernel
theorem dX12_begin_1 : decode cX12_begin 1 = .ok (.iconst 0, 1) := by decide +kernel
theorem dX12_begin_2 : decode cX12_begin 2 = .ok (.putfield 257, 3) := by decide +kernel
theorem dX12_begin_5 : decode cX12_begin 5 = .ok (.aload_n 0, 1) := by decide +kernel
theorem dX12_begin_6 : decode cX12_begin 6 = .ok (.iconst 0, 1) := by decide +kernel
theorem dX12_begin_7 : decode cX12_begin 7 = .ok (.putfield 260, 3) := by decide +kernel
theorem dX12_begin_10 : decode cX12_begin 10 = .ok (.aload_n 0, 1) := by decide +kernel
theorem dX12_begin_11 : decode cX12_begin 11 = .ok (.iconst (-1), 1) := by decide +kernel
theorem dX12_begin_12 : decode cX12_begin 12 = .ok (.putfield 38, 3) := by decide +kernel
theorem dX12_begin_15 : decode cX12_begin 15 = .ok (.aload_n 0, 1) := by decide +kernel
theorem dX12_begin_16 : decode cX12_begin 16 = .ok (.invokevirtual 264, 3) := by decide +kernel
theorem dX12_begin_19 : decode cX12_begin 19 = .ok (.return_, 1) := by decide +kernel
theorem dX12_onward_0 : decode cX12_onward 0 = .ok (.aload_n 0, 1) := by decide +kernel
theorem dX12_onward_1 : decode cX12_onward 1 = .ok (.aload_n 0, 1) := by decide +kernel
theorem dX12_onward_2 : decode cX12_onward 2 = .ok (.getfield 257, 3) := by decide +kernel
theorem dX12_onward_5 : decode cX12_onward 5 = .ok (.putfield 267, 3) := by decide +kernel
theorem dX12_onward_8 : decode cX12_onward 8 = .ok (.aload_n 0, 1) := by decide +kernel
theorem dX12_onward_9 : decode cX12_onward 9 = .ok (.getfield 267, 3) := by decide +kernel
theorem dX12_onward_12 : decode cX12_onward 12 = .ok (.aload_n 0, 1) := by decide +kernel
theorem dX12_onward_13 : decode cX12_onward 13 = .ok (.getfield 248, 3) := by decide +kernel
theorem dX12_onward_16 : decode cX12_onward 16 = .ok (.if_icmp .ge 30, 3) := by decide +kernel
theorem dX12_onward_19 : decode cX12_onward 19 = .ok (.aload_n 0, 1) := by decide +kernel
theorem dX12_onward_20 : decode cX12_onward 20 = .ok (.getfield 35, 3) := by decide +kernel
theorem dX12_onward_23 : decode cX12_onward 23 = .ok (.aload_n 0, 1) := by decide +kernel
theorem dX12_onward_24 : decode cX12_onward 24 = .ok (.getfield 267, 3) := by decide +kernel
theorem dX12_onward_27 : decode cX12_onward 27 = .ok (.iaload, 1) := by decide +kernel
theorem dX12_onward_28 : decode cX12_onward 28 = .ok (.bipush 32, 2) := by decide +kernel
theorem dX12_onward_30 : decode cX12_onward 30 = .ok (.if_icmp .ne 16, 3) := by decide +kernel
theorem dX12_onward_33 : decode cX12_onward 33 = .ok (.aload_n 0, 1) := by decide +kernel
theorem dX12_onward_34 : decode cX12_onward 34 = .ok (.dup, 1) := by decide +kernel
theorem dX12_onward_35 : decode cX12_onward 35 = .ok (.getfield 267, 3) := by decide +kernel
theorem dX12_onward_38 : decode cX12_onward 38 = .ok (.iconst 1, 1) := by decide +kernel
theorem dX12_onward_39 : decode cX12_onward 39 = .ok (.iadd, 1) := by decide +kernel
theorem dX12_onward_40 : decode cX12_onward 40 = .ok (.putfield 267, 3) := by decide +kernel
theorem dX12_onward_43 : decode cX12_onward 43 = .ok (.goto (-35), 3) := by decide +kernel
theorem dX12_onward_46 : decode cX12_onward 46 = .ok (.aload_n 0, 1) := by decide +kernel
theorem dX12_onward_47 : decode cX12_onward 47 = .ok (.aload_n 0, 1) := by decide +kernel
theorem dX12_onward_48 : decode cX12_onward 48 = .ok (.getfield 267, 3) := by decide +kernel
theorem dX12_onward_51 : decode cX12_onward 51 = .ok (.putfield 257, 3) := by decide +kernel
theorem dX12_onward_54 : decode cX12_onward 54 = .ok (.aload_n 0, 1) := by decide +kernel
theorem dX12_onward_55 : decode cX12_onward 55 = .ok (.lconst 0, 1) := by decide +kernel
theorem dX12_onward_56 : decode cX12_onward 56 = .ok (.putfield 270, 3) := by decide +kernel
theorem dX12_onward_59 : decode cX12_onward 59 = .ok (.aload_n 0, 1) := by decide +kernel
theorem dX12_onward_60 : decode cX12_onward 60 = .ok (.aload_n 0, 1) := by decide +kernel
theorem dX12_onward_61 : decode cX12_onward 61 = .ok (.getfield 267, 3) := by decide +kernel
theorem dX12_onward_64 : decode cX12_onward 64 = .ok (.aload_n 0, 1) := by decide +kernel
theorem dX12_onward_65 : decode cX12_onward 65 = .ok (.getfield 248, 3) := by decide +kernel
theorem dX12_onward_68 : decode cX12_onward 68 = .ok (.if_icmp .ne 7, 3) := by decide +kernel
theorem dX12_onward_71 : decode cX12_onward 71 = .ok (.iconst 0, 1) := by decide +kernel
theorem dX12_onward_72 : decode cX12_onward 72 = .ok (.goto 42, 3) := by decide +kernel
theorem dX12_onward_75 : decode cX12_onward 75 = .ok (.aload_n 0, 1) := by decide +kernel
theorem dX12_onward_76 : decode cX12_onward 76 = .ok (.getfield 35, 3) := by decide +kernel
theorem dX12_onward_79 : decode cX12_onward 79 = .ok (.aload_n 0, 1) := by decide +kernel
theorem dX12_onward_80 : decode cX12_onward 80 = .ok (.getfield 267, 3) := by decide +kernel
theorem dX12_onward_83 : decode cX12_onward 83 = .ok (.iaload, 1) := by decide +kernel
theorem dX12_onward_84 : decode cX12_onward 84 = .ok (.invokestatic 274, 3) := by decide +kernel
theorem dX12_onward_87 : decode cX12_onward 87 = .ok (.ifCond .eq 7, 3) := by decide +kernel
theorem dX12_onward_90 : decode cX12_onward 90 = .ok (.iconst 1, 1) := by decide +kernel
theorem dX12_onward_91 : decode cX12_onward 91 = .ok (.goto 23, 3) := by decide +kernel
theorem dX12_onward_94 : decode cX12_onward 94 = .ok (.aload_n 0, 1) := by decide +kernel
theorem dX12_onward_95 : decode cX12_onward 95 = .ok (.getfield 35, 3) := by decide +kernel
theorem dX12_onward_98 : decode cX12_onward 98 = .ok (.aload_n 0, 1) := by decide +kernel
theorem dX12_onward_99 : decode cX12_onward 99 = .ok (.getfield 267, 3) := by decide +kernel
theorem dX12_onward_102 : decode cX12_onward 102 = .ok (.iaload, 1) := by decide +kernel
theorem dX12_onward_103 : decode cX12_onward 103 = .ok (.invokestatic 277, 3) := by decide +kernel
theorem dX12_onward_106 : decode cX12_onward 106 = .ok (.ifCond .eq 7, 3) := by decide +kernel
theorem dX12_onward_109 : decode cX12_onward 109 = .ok (.iconst 2, 1) := by decide +kernel
theorem dX12_onward_110 : decode cX12_onward 110 = .ok (.goto 4, 3) := by decide +kernel
theorem dX12_onward_113 : decode cX12_onward 113 = .ok (.iconst 3, 1) := by decide +kernel
theorem dX12_onward_114 : decode cX12_onward 114 = .ok (.putfield 280, 3) := by decide +kernel
theorem dX12_onward_117 : decode cX12_onward 117 = .ok (.aload_n 0, 1) := by decide +kernel
theorem dX12_onward_118 : decode cX12_onward 118 = .ok (.getfield 280, 3) := by decide +kernel
theorem dX12_onward_121 : decode cX12_onward 121 = .ok (.iconst 3, 1) := by decide +kernel
theorem dX12_onward_122 : decode cX12_onward 122 = .ok (.if_icmp .ne 27, 3) := by decide +kernel
theorem dX12_onward_125 : decode cX12_onward 125 = .ok (.aload_n 0, 1) := by decide +kernel
theorem dX12_onward_126 : decode cX12_onward 126 = .ok (.aload_n 0, 1) := by decide +kernel
theorem dX12_onward_127 : decode cX12_onward 127 = .ok (.getfield 35, 3) := by decide +kernel
theorem dX12_onward_130 : decode cX12_onward 130 = .ok (.aload_n 0, 1) := by decide +kernel
theorem dX12_onward_131 : decode cX12_onward 131 = .ok (.getfield 267, 3) := by decide +kernel
theorem dX12_onward_134 : decode cX12_onward 134 = .ok (.iaload, 1) := by decide +kernel
theorem dX12_onward_135 : decode cX12_onward 135 = .ok (.i2l, 1) := by decide +kernel
theorem dX12_onward_136 : decode cX12_onward 136 = .ok (.putfield 270, 3) := by decide +kernel
theorem dX12_onward_139 : decode cX12_onward 139 = .ok (.aload_n 0, 1) := by decide +kernel
theorem dX12_onward_140 : decode cX12_onward 140 = .ok (.dup, 1) := by decide +kernel
theorem dX12_onward_141 : decode cX12_onward 141 = .ok (.getfield 257, 3) := by decide +kernel
theorem dX12_onward_144 : decode cX12_onward 144 = .ok (.iconst 1, 1) := by decide +kernel
theorem dX12_onward_145 : decode cX12_onward 145 = .ok (.iadd, 1) := by decide +kernel
theorem dX12_onward_146 : decode cX12_onward 146 = .ok (.putfield 257, 3) := by decide +kernel
theorem dX12_onward_149 : decode cX12_onward 149 = .ok (.aload_n 0, 1) := by decide +kernel
theorem dX12_onward_150 : decode cX12_onward 150 = .ok (.getfield 280, 3) := by decide +kernel
theorem dX12_onward_153 : decode cX12_onward 153 = .ok (.iconst 1, 1) := by decide +kernel
theorem dX12_onward_154 : decode cX12_onward 154 = .ok (.if_icmp .ne 89, 3) := by decide +kernel
theorem dX12_onward_157 : decode cX12_onward 157 = .ok (.aload_n 0, 1) := by decide +kernel
theorem dX12_onward_158 : decode cX12_onward 158 = .ok (.getfield 257, 3) := by decide +kernel
theorem dX12_onward_161 : decode cX12_onward 161 = .ok (.aload_n 0, 1) := by decide +kernel
theorem dX12_onward_162 : decode cX12_onward 162 = .ok (.getfield 248, 3) := by decide +kernel
theorem dX12_onward_165 : decode cX12_onward 165 = .ok (.if_icmp .ge 78, 3) := by decide +kernel
theorem dX12_onward_168 : decode cX12_onward 168 = .ok (.aload_n 0, 1) := by decide +kernel
theorem dX12_onward_169 : decode cX12_onward 169 = .ok (.getfield 35, 3) := by decide +kernel
theorem dX12_onward_172 : decode cX12_onward 172 = .ok (.aload_n 0, 1) := by decide +kernel
theorem dX12_onward_173 : decode cX12_onward 173 = .ok (.getfield 257, 3) := by decide +kernel
theorem dX12_onward_176 : decode cX12_onward 176 = .ok (.iaload, 1) := by decide +kernel
theorem dX12_onward_177 : decode cX12_onward 177 = .ok (.invokestatic 274, 3) := by decide +kernel
theorem dX12_onward_180 : decode cX12_onward 180 = .ok (.ifCond .eq 63, 3) := by decide +kernel
theorem dX12_onward_183 : decode cX12_onward 183 = .ok (.aload_n 0, 1) := by decide +kernel
theorem dX12_onward_184 : decode cX12_onward 184 = .ok (.aload_n 0, 1) := by decide +kernel
theorem dX12_onward_185 : decode cX12_onward 185 = .ok (.getfield 257, 3) := by decide +kernel
theorem dX12_onward_188 : decode cX12_onward 188 = .ok (.aload_n 0, 1) := by decide +kernel
theorem dX12_onward_189 : decode cX12_onward 189 = .ok (.getfield 267, 3) := by decide +kernel
theorem dX12_onward_192 : decode cX12_onward 192 = .ok (.isub, 1) := by decide +kernel
theorem dX12_onward_193 : decode cX12_onward 193 = .ok (.bipush 10, 2) := by decide +kernel
theorem dX12_onward_195 : decode cX12_onward 195 = .ok (.if_icmp .ge 29, 3) := by decide +kernel
theorem dX12_onward_198 : decode cX12_onward 198 = .ok (.aload_n 0, 1) := by decide +kernel
theorem dX12_onward_199 : decode cX12_onward 199 = .ok (.getfield 270, 3) := by decide +kernel
theorem dX12_onward_202 : decode cX12_onward 202 = .ok (.ldc2_w 283, 3) := by decide +kernel
theorem dX12_onward_205 : decode cX12_onward 205 = .ok (.lmul, 1) := by decide +kernel
theorem dX12_onward_206 : decode cX12_onward 206 = .ok (.aload_n 0, 1) := by decide +kernel
theorem dX12_onward_207 : decode cX12_onward 207 = .ok (.getfield 35, 3) := by decide +kernel
theorem dX12_onward_210 : decode cX12_onward 210 = .ok (.aload_n 0, 1) := by decide +kernel
theorem dX12_onward_211 : decode cX12_onward 211 = .ok (.getfield 257, 3) := by decide +kernel
theorem dX12_onward_214 : decode cX12_onward 214 = .ok (.iaload, 1) := by decide +kernel
theorem dX12_onward_215 : decode cX12_onward 215 = .ok (.i2l, 1) := by decide +kernel
theorem dX12_onward_216 : decode cX12_onward 216 = .ok (.ladd, 1) := by decide +kernel
theorem dX12_onward_217 : decode cX12_onward 217 = .ok (.ldc2_w 285, 3) := by decide +kernel
theorem dX12_onward_220 : decode cX12_onward 220 = .ok (.lsub, 1) := by decide +kernel
theorem dX12_onward_221 : decode cX12_onward 221 = .ok (.goto 6, 3) := by decide +kernel
theorem dX12_onward_224 : decode cX12_onward 224 = .ok (.ldc2_w 287, 3) := by decide +kernel
theorem dX12_onward_227 : decode cX12_onward 227 = .ok (.putfield 270, 3) := by decide +kernel
theorem dX12_onward_230 : decode cX12_onward 230 = .ok (.aload_n 0, 1) := by decide +kernel
theorem dX12_onward_231 : decode cX12_onward 231 = .ok (.dup, 1) := by decide +kernel
theorem dX12_onward_232 : decode cX12_onward 232 = .ok (.getfield 257, 3) := by decide +kernel
theorem dX12_onward_235 : decode cX12_onward 235 = .ok (.iconst 1, 1) := by decide +kernel
theorem dX12_onward_236 : decode cX12_onward 236 = .ok (.iadd, 1) := by decide +kernel
theorem dX12_onward_237 : decode cX12_onward 237 = .ok (.putfield 257, 3) := by decide +kernel
theorem dX12_onward_240 : decode cX12_onward 240 = .ok (.goto (-91), 3) := by decide +kernel
theorem dX12_onward_243 : decode cX12_onward 243 = .ok (.aload_n 0, 1) := by decide +kernel
theorem dX12_onward_244 : decode cX12_onward 244 = .ok (.getfield 280, 3) := by decide +kernel
theorem dX12_onward_247 : decode cX12_onward 247 = .ok (.iconst 2, 1) := by decide +kernel
theorem dX12_onward_248 : decode cX12_onward 248 = .ok (.if_icmp .ne 87, 3) := by decide +kernel
theorem dX12_onward_251 : decode cX12_onward 251 = .ok (.aload_n 0, 1) := by decide +kernel
theorem dX12_onward_252 : decode cX12_onward 252 = .ok (.getfield 257, 3) := by decide +kernel
theorem dX12_onward_255 : decode cX12_onward 255 = .ok (.aload_n 0, 1) := by decide +kernel
theorem dX12_onward_256 : decode cX12_onward 256 = .ok (.getfield 248, 3) := by decide +kernel
theorem dX12_onward_259 : decode cX12_onward 259 = .ok (.if_icmp .ge 76, 3) := by decide +kernel
theorem dX12_onward_262 : decode cX12_onward 262 = .ok (.aload_n 0, 1) := by decide +kernel
theorem dX12_onward_263 : decode cX12_onward 263 = .ok (.getfield 35, 3) := by decide +kernel
theorem dX12_onward_266 : decode cX12_onward 266 = .ok (.aload_n 0, 1) := by decide +kernel
theorem dX12_onward_267 : decode cX12_onward 267 = .ok (.getfield 257, 3) := by decide +kernel
theorem dX12_onward_270 : decode cX12_onward 270 = .ok (.iaload, 1) := by decide +kernel
theorem dX12_onward_271 : decode cX12_onward 271 = .ok (.invokestatic 277, 3) := by decide +kernel
theorem dX12_onward_274 : decode cX12_onward 274 = .ok (.ifCond .eq 61, 3) := by decide +kernel
theorem dX12_onward_277 : decode cX12_onward 277 = .ok (.aload_n 0, 1) := by decide +kernel
theorem dX12_onward_278 : decode cX12_onward 278 = .ok (.aload_n 0, 1) := by decide +kernel
theorem dX12_onward_279 : decode cX12_onward 279 = .ok (.getfield 270, 3) := by decide +kernel
theorem dX12_onward_282 : decode cX12_onward 282 = .ok (.ldc2_w 289, 3) := by decide +kernel
theorem dX12_onward_285 : decode cX12_onward 285 = .ok (.lcmp, 1) := by decide +kernel
theorem dX12_onward_286 : decode cX12_onward 286 = .ok (.ifCond .le 10, 3) := by decide +kernel
theorem dX12_onward_289 : decode cX12_onward 289 = .ok (.aload_n 0, 1) := by decide +kernel
theorem dX12_onward_290 : decode cX12_onward 290 = .ok (.getfield 270, 3) := by decide +kernel
theorem dX12_onward_293 : decode cX12_onward 293 = .ok (.goto 26, 3) := by decide +kernel
theorem dX12_onward_296 : decode cX12_onward 296 = .ok (.aload_n 0, 1) := by decide +kernel
theorem dX12_onward_297 : decode cX12_onward 297 = .ok (.getfield 270, 3) := by decide +kernel
theorem dX12_onward_300 : decode cX12_onward 300 = .ok (.ldc2_w 242, 3) := by decide +kernel
theorem dX12_onward_303 : decode cX12_onward 303 = .ok (.lmul, 1) := by decide +kernel
theorem dX12_onward_304 : decode cX12_onward 304 = .ok (.aload_n 0, 1) := by decide +kernel
theorem dX12_onward_305 : decode cX12_onward 305 = .ok (.getfield 35, 3) := by decide +kernel
theorem dX12_onward_308 : decode cX12_onward 308 = .ok (.aload_n 0, 1) := by decide +kernel
theorem dX12_onward_309 : decode cX12_onward 309 = .ok (.getfield 257, 3) := by decide +kernel
theorem dX12_onward_312 : decode cX12_onward 312 = .ok (.iaload, 1) := by decide +kernel
theorem dX12_onward_313 : decode cX12_onward 313 = .ok (.i2l, 1) := by decide +kernel
theorem dX12_onward_314 : decode cX12_onward 314 = .ok (.ladd, 1) := by decide +kernel
theorem dX12_onward_315 : decode cX12_onward 315 = .ok (.ldc2_w 291, 3) := by decide +kernel
theorem dX12_onward_318 : decode cX12_onward 318 = .ok (.lsub, 1) := by decide +kernel
theorem dX12_onward_319 : decode cX12_onward 319 = .ok (.putfield 270, 3) := by decide +kernel
theorem dX12_onward_322 : decode cX12_onward 322 = .ok (.aload_n 0, 1) := by decide +kernel
theorem dX12_onward_323 : decode cX12_onward 323 = .ok (.dup, 1) := by decide +kernel
theorem dX12_onward_324 : decode cX12_onward 324 = .ok (.getfield 257, 3) := by decide +kernel
theorem dX12_onward_327 : decode cX12_onward 327 = .ok (.iconst 1, 1) := by decide +kernel
theorem dX12_onward_328 : decode cX12_onward 328 = .ok (.iadd, 1) := by decide +kernel
theorem dX12_onward_329 : decode cX12_onward 329 = .ok (.putfield 257, 3) := by decide +kernel
theorem dX12_onward_332 : decode cX12_onward 332 = .ok (.goto (-89), 3) := by decide +kernel
theorem dX12_onward_335 : decode cX12_onward 335 = .ok (.return_, 1) := by decide +kernel
theorem dX12_isWord_0 : decode cX12_isWord 0 = .ok (.aload_n 0, 1) := by decide +kernel
theorem dX12_isWord_1 : decode cX12_isWord 1 = .ok (.getfield 280, 3) := by decide +kernel
theorem dX12_isWord_4 : decode cX12_isWord 4 = .ok (.iconst 1, 1) := by decide +kernel
theorem dX12_isWord_5 : decode cX12_isWord 5 = .ok (.if_icmp .ne 16, 3) := by decide +kernel
theorem dX12_isWord_8 : decode cX12_isWord 8 = .ok (.aload_n 0, 1) := by decide +kernel
theorem dX12_isWord_9 : decode cX12_isWord 9 = .ok (.getfield 270, 3) := by decide +kernel
theorem dX12_isWord_12 : decode cX12_isWord 12 = .ok (.lload_n 1, 1) := by decide +kernel
theorem dX12_isWord_13 : decode cX12_isWord 13 = .ok (.lcmp, 1) := by decide +kernel
theorem dX12_isWord_14 : decode cX12_isWord 14 = .ok (.ifCond .ne 7, 3) := by decide +kernel
theorem dX12_isWord_17 : decode cX12_isWord 17 = .ok (.iconst 1, 1) := by decide +kernel
theorem dX12_isWord_18 : decode cX12_isWord 18 = .ok (.goto 4, 3) := by decide +kernel
theorem dX12_isWord_21 : decode cX12_isWord 21 = .ok (.iconst 0, 1) := by decide +kernel
theorem dX12_isWord_22 : decode cX12_isWord 22 = .ok (.ireturn, 1) := by decide +kernel
theorem dX12_isSign_0 : decode cX12_isSign 0 = .ok (.aload_n 0, 1) := by decide +kernel
theorem dX12_isSign_1 : decode cX12_isSign 1 = .ok (.getfield 280, 3) := by decide +kernel
theorem dX12_isSign_4 : decode cX12_isSign 4 = .ok (.iconst 3, 1) := by decide +kernel
theorem dX12_isSign_5 : decode cX12_isSign 5 = .ok (.if_icmp .ne 17, 3) := by decide +kernel
theorem dX12_isSign_8 : decode cX12_isSign 8 = .ok (.aload_n 0, 1) := by decide +kernel
theorem dX12_isSign_9 : decode cX12_isSign 9 = .ok (.getfield 270, 3) := by decide +kernel
theorem dX12_isSign_12 : decode cX12_isSign 12 = .ok (.iload_n 1, 1) := by decide +kernel
theorem dX12_isSign_13 : decode cX12_isSign 13 = .ok (.i2l, 1) := by decide +kernel
theorem dX12_isSign_14 : decode cX12_isSign 14 = .ok (.lcmp, 1) := by decide +kernel
theorem dX12_isSign_15 : decode cX12_isSign 15 = .ok (.ifCond .ne 7, 3) := by decide +kernel
theorem dX12_isSign_18 : decode cX12_isSign 18 = .ok (.iconst 1, 1) := by decide +kernel
theorem dX12_isSign_19 : decode cX12_isSign 19 = .ok (.goto 4, 3) := by decide +kernel
theorem dX12_isSign_22 : decode cX12_isSign 22 = .ok (.iconst 0, 1) := by decide +kernel
theorem dX12_isSign_23 : decode cX12_isSign 23 = .ok (.ireturn, 1) := by decide +kernel
theorem dX12_must_0 : decode cX12_must 0 = .ok (.aload_n 0, 1) := by decide +kernel
theorem dX12_must_1 : decode cX12_must 1 = .ok (.getfield 260, 3) := by decide +kernel
theorem dX12_must_4 : decode cX12_must 4 = .ok (.ifCond .ne 20, 3) := by decide +kernel
theorem dX12_must_7 : decode cX12_must 7 = .ok (.iload_n 1, 1) := by decide +kernel
theorem dX12_must_8 : decode cX12_must 8 = .ok (.ifCond .ne 16, 3) := by decide +kernel
theorem dX12_must_11 : decode cX12_must 11 = .ok (.aload_n 0, 1) := by decide +kernel
theorem dX12_must_12 : decode cX12_must 12 = .ok (.iconst 1, 1) := by decide +kernel
theorem dX12_must_13 : decode cX12_must 13 = .ok (.putfield 260, 3) := by decide +kernel
theorem dX12_must_16 : decode cX12_must 16 = .ok (.aload_n 0, 1) := by decide +kernel
theorem dX12_must_17 : decode cX12_must 17 = .ok (.aload_n 0, 1) := by decide +kernel
theorem dX12_must_18 : decode cX12_must 18 = .ok (.getfield 267, 3) := by decide +kernel
theorem dX12_must_21 : decode cX12_must 21 = .ok (.putfield 38, 3) := by decide +kernel
theorem dX12_must_24 : decode cX12_must 24 = .ok (.aload_n 0, 1) := by decide +kernel
theorem dX12_must_25 : decode cX12_must 25 = .ok (.getfield 260, 3) := by decide +kernel
theorem dX12_must_28 : decode cX12_must 28 = .ok (.ifCond .ne 7, 3) := by decide +kernel
theorem dX12_must_31 : decode cX12_must 31 = .ok (.aload_n 0, 1) := by decide +kernel
theorem dX12_must_32 : decode cX12_must 32 = .ok (.invokevirtual 264, 3) := by decide +kernel
theorem dX12_must_35 : decode cX12_must 35 = .ok (.return_, 1) := by decide +kernel
theorem dX12_number_0 : decode cX12_number 0 = .ok (.aload_n 0, 1) := by decide +kernel
theorem dX12_number_1 : decode cX12_number 1 = .ok (.getfield 270, 3) := by decide +kernel
theorem dX12_number_4 : decode cX12_number 4 = .ok (.l2i, 1) := by decide +kernel
theorem dX12_number_5 : decode cX12_number 5 = .ok (.istore 5, 2) := by decide +kernel
theorem dX12_number_7 : decode cX12_number 7 = .ok (.aload_n 0, 1) := by decide +kernel
theorem dX12_number_8 : decode cX12_number 8 = .ok (.aload_n 0, 1) := by decide +kernel
theorem dX12_number_9 : decode cX12_number 9 = .ok (.getfield 280, 3) := by decide +kernel
theorem dX12_number_12 : decode cX12_number 12 = .ok (.iconst 2, 1) := by decide +kernel
theorem dX12_number_13 : decode cX12_number 13 = .ok (.if_icmp .ne 19, 3) := by decide +kernel
theorem dX12_number_16 : decode cX12_number 16 = .ok (.aload_n 0, 1) := by decide +kernel
theorem dX12_number_17 : decode cX12_number 17 = .ok (.getfield 270, 3) := by decide +kernel
theorem dX12_number_20 : decode cX12_number 20 = .ok (.lload_n 1, 1) := by decide +kernel
theorem dX12_number_21 : decode cX12_number 21 = .ok (.lload_n 3, 1) := by decide +kernel
theorem dX12_number_22 : decode cX12_number 22 = .ok (.invokestatic 181, 3) := by decide +kernel
theorem dX12_number_25 : decode cX12_number 25 = .ok (.ifCond .eq 7, 3) := by decide +kernel
theorem dX12_number_28 : decode cX12_number 28 = .ok (.iconst 1, 1) := by decide +kernel
theorem dX12_number_29 : decode cX12_number 29 = .ok (.goto 4, 3) := by decide +kernel
theorem dX12_number_32 : decode cX12_number 32 = .ok (.iconst 0, 1) := by decide +kernel
theorem dX12_number_33 : decode cX12_number 33 = .ok (.invokevirtual 293, 3) := by decide +kernel
theorem dX12_number_36 : decode cX12_number 36 = .ok (.iload 5, 2) := by decide +kernel
theorem dX12_number_38 : decode cX12_number 38 = .ok (.ireturn, 1) := by decide +kernel
theorem dX12_fault_0 : decode cX12_fault 0 = .ok (.aload_n 0, 1) := by decide +kernel
theorem dX12_fault_1 : decode cX12_fault 1 = .ok (.iconst 0, 1) := by decide +kernel
theorem dX12_fault_2 : decode cX12_fault 2 = .ok (.putfield 161, 3) := by decide +kernel
theorem dX12_fault_5 : decode cX12_fault 5 = .ok (.aload_n 0, 1) := by decide +kernel
theorem dX12_fault_6 : decode cX12_fault 6 = .ok (.getfield 38, 3) := by decide +kernel
theorem dX12_fault_9 : decode cX12_fault 9 = .ok (.ireturn, 1) := by decide +kernel
theorem dX12_emit_0 : decode cX12_emit 0 = .ok (.aload_n 0, 1) := by decide +kernel
theorem dX12_emit_1 : decode cX12_emit 1 = .ok (.getfield 45, 3) := by decide +kernel
theorem dX12_emit_4 : decode cX12_emit 4 = .ok (.aload_n 0, 1) := by decide +kernel
theorem dX12_emit_5 : decode cX12_emit 5 = .ok (.getfield 297, 3) := by decide +kernel
theorem dX12_emit_8 : decode cX12_emit 8 = .ok (.iload_n 1, 1) := by decide +kernel
theorem dX12_emit_9 : decode cX12_emit 9 = .ok (.iastore, 1) := by decide +kernel
theorem dX12_emit_10 : decode cX12_emit 10 = .ok (.aload_n 0, 1) := by decide +kernel
theorem dX12_emit_11 : decode cX12_emit 11 = .ok (.getfield 48, 3) := by decide +kernel
theorem dX12_emit_14 : decode cX12_emit 14 = .ok (.aload_n 0, 1) := by decide +kernel
theorem dX12_emit_15 : decode cX12_emit 15 = .ok (.getfield 297, 3) := by decide +kernel
theorem dX12_emit_18 : decode cX12_emit 18 = .ok (.iload_n 2, 1) := by decide +kernel
theorem dX12_emit_19 : decode cX12_emit 19 = .ok (.iastore, 1) := by decide +kernel
theorem dX12_emit_20 : decode cX12_emit 20 = .ok (.aload_n 0, 1) := by decide +kernel
theorem dX12_emit_21 : decode cX12_emit 21 = .ok (.dup, 1) := by decide +kernel
theorem dX12_emit_22 : decode cX12_emit 22 = .ok (.getfield 297, 3) := by decide +kernel
theorem dX12_emit_25 : decode cX12_emit 25 = .ok (.iconst 1, 1) := by decide +kernel
theorem dX12_emit_26 : decode cX12_emit 26 = .ok (.iadd, 1) := by decide +kernel
theorem dX12_emit_27 : decode cX12_emit 27 = .ok (.putfield 297, 3) := by decide +kernel
theorem dX12_emit_30 : decode cX12_emit 30 = .ok (.return_, 1) := by decide +kernel
theorem dX12_push_0 : decode cX12_push 0 = .ok (.aload_n 0, 1) := by decide +kernel
theorem dX12_push_1 : decode cX12_push 1 = .ok (.getfield 51, 3) := by decide +kernel
theorem dX12_push_4 : decode cX12_push 4 = .ok (.aload_n 0, 1) := by decide +kernel
theorem dX12_push_5 : decode cX12_push 5 = .ok (.getfield 300, 3) := by decide +kernel
theorem dX12_push_8 : decode cX12_push 8 = .ok (.iload_n 1, 1) := by decide +kernel
theorem dX12_push_9 : decode cX12_push 9 = .ok (.iastore, 1) := by decide +kernel
theorem dX12_push_10 : decode cX12_push 10 = .ok (.aload_n 0, 1) := by decide +kernel
theorem dX12_push_11 : decode cX12_push 11 = .ok (.getfield 54, 3) := by decide +kernel
theorem dX12_push_14 : decode cX12_push 14 = .ok (.aload_n 0, 1) := by decide +kernel
theorem dX12_push_15 : decode cX12_push 15 = .ok (.getfield 300, 3) := by decide +kernel
theorem dX12_push_18 : decode cX12_push 18 = .ok (.iload_n 2, 1) := by decide +kernel
theorem dX12_push_19 : decode cX12_push 19 = .ok (.iastore, 1) := by decide +kernel
theorem dX12_push_20 : decode cX12_push 20 = .ok (.aload_n 0, 1) := by decide +kernel
theorem dX12_push_21 : decode cX12_push 21 = .ok (.dup, 1) := by decide +kernel
theorem dX12_push_22 : decode cX12_push 22 = .ok (.getfield 300, 3) := by decide +kernel
theorem dX12_push_25 : decode cX12_push 25 = .ok (.iconst 1, 1) := by decide +kernel
theorem dX12_push_26 : decode cX12_push 26 = .ok (.iadd, 1) := by decide +kernel
theorem dX12_push_27 : decode cX12_push 27 = .ok (.putfield 300, 3) := by decide +kernel
theorem dX12_push_30 : decode cX12_push 30 = .ok (.return_, 1) := by decide +kernel
theorem dX12_binds_0 : decode cX12_binds 0 = .ok (.iload_n 0, 1) := by decide +kernel
theorem dX12_binds_1 : decode cX12_binds 1 = .ok (.bipush 31, 2) := by decide +kernel
theorem dX12_binds_3 : decode cX12_binds 3 = .ok (.if_icmp .lt 7, 3) := by decide +kernel
theorem dX12_binds_6 : decode cX12_binds 6 = .ok (.iconst 0, 1) := by decide +kernel
theorem dX12_binds_7 : decode cX12_binds 7 = .ok (.goto 55, 3) := by decide +kernel
theorem dX12_binds_10 : decode cX12_binds 10 = .ok (.iload_n 0, 1) := by decide +kernel
theorem dX12_binds_11 : decode cX12_binds 11 = .ok (.bipush 30, 2) := by decide +kernel
theorem dX12_binds_13 : decode cX12_binds 13 = .ok (.if_icmp .ne 7, 3) := by decide +kernel
theorem dX12_binds_16 : decode cX12_binds 16 = .ok (.iconst 1, 1) := by decide +kernel
theorem dX12_binds_17 : decode cX12_binds 17 = .ok (.goto 45, 3) := by decide +kernel
theorem dX12_binds_20 : decode cX12_binds 20 = .ok (.iload_n 0, 1) := by decide +kernel
theorem dX12_binds_21 : decode cX12_binds 21 = .ok (.bipush 29, 2) := by decide +kernel
theorem dX12_binds_23 : decode cX12_binds 23 = .ok (.if_icmp .ne 7, 3) := by decide +kernel
theorem dX12_binds_26 : decode cX12_binds 26 = .ok (.iconst 2, 1) := by decide +kernel
theorem dX12_binds_27 : decode cX12_binds 27 = .ok (.goto 35, 3) := by decide +kernel
theorem dX12_binds_30 : decode cX12_binds 30 = .ok (.iload_n 0, 1) := by decide +kernel
theorem dX12_binds_31 : decode cX12_binds 31 = .ok (.bipush 28, 2) := by decide +kernel
theorem dX12_binds_33 : decode cX12_binds 33 = .ok (.if_icmp .ne 7, 3) := by decide +kernel
theorem dX12_binds_36 : decode cX12_binds 36 = .ok (.iconst 3, 1) := by decide +kernel
theorem dX12_binds_37 : decode cX12_binds 37 = .ok (.goto 25, 3) := by decide +kernel
theorem dX12_binds_40 : decode cX12_binds 40 = .ok (.iload_n 0, 1) := by decide +kernel
theorem dX12_binds_41 : decode cX12_binds 41 = .ok (.bipush 25, 2) := by decide +kernel
theorem dX12_binds_43 : decode cX12_binds 43 = .ok (.if_icmp .lt 7, 3) := by decide +kernel
theorem dX12_binds_46 : decode cX12_binds 46 = .ok (.iconst 4, 1) := by decide +kernel
theorem dX12_binds_47 : decode cX12_binds 47 = .ok (.goto 15, 3) := by decide +kernel
theorem dX12_binds_50 : decode cX12_binds 50 = .ok (.iload_n 0, 1) := by decide +kernel
theorem dX12_binds_51 : decode cX12_binds 51 = .ok (.bipush 22, 2) := by decide +kernel
theorem dX12_binds_53 : decode cX12_binds 53 = .ok (.if_icmp .lt 8, 3) := by decide +kernel
theorem dX12_binds_56 : decode cX12_binds 56 = .ok (.bipush 6, 2) := by decide +kernel
theorem dX12_binds_58 : decode cX12_binds 58 = .ok (.goto 4, 3) := by decide +kernel
theorem dX12_binds_61 : decode cX12_binds 61 = .ok (.iconst 5, 1) := by decide +kernel
theorem dX12_binds_62 : decode cX12_binds 62 = .ok (.ireturn, 1) := by decide +kernel
theorem dX12_settle_0 : decode cX12_settle 0 = .ok (.aload_n 0, 1) := by decide +kernel
theorem dX12_settle_1 : decode cX12_settle 1 = .ok (.getfield 300, 3) := by decide +kernel
theorem dX12_settle_4 : decode cX12_settle 4 = .ok (.ifCond .le 97, 3) := by decide +kernel
theorem dX12_settle_7 : decode cX12_settle 7 = .ok (.aload_n 0, 1) := by decide +kernel
theorem dX12_settle_8 : decode cX12_settle 8 = .ok (.getfield 51, 3) := by decide +kernel
theorem dX12_settle_11 : decode cX12_settle 11 = .ok (.aload_n 0, 1) := by decide +kernel
theorem dX12_settle_12 : decode cX12_settle 12 = .ok (.getfield 300, 3) := by decide +kernel
theorem dX12_settle_15 : decode cX12_settle 15 = .ok (.iconst 1, 1) := by decide +kernel
theorem dX12_settle_16 : decode cX12_settle 16 = .ok (.isub, 1) := by decide +kernel
theorem dX12_settle_17 : decode cX12_settle 17 = .ok (.iaload, 1) := by decide +kernel
theorem dX12_settle_18 : decode cX12_settle 18 = .ok (.invokestatic 303, 3) := by decide +kernel
theorem dX12_settle_21 : decode cX12_settle 21 = .ok (.iload_n 1, 1) := by decide +kernel
theorem dX12_settle_22 : decode cX12_settle 22 = .ok (.if_icmp .lt 79, 3) := by decide +kernel
theorem dX12_settle_25 : decode cX12_settle 25 = .ok (.aload_n 0, 1) := by decide +kernel
theorem dX12_settle_26 : decode cX12_settle 26 = .ok (.dup, 1) := by decide +kernel
theorem dX12_settle_27 : decode cX12_settle 27 = .ok (.getfield 300, 3) := by decide +kernel
theorem dX12_settle_30 : decode cX12_settle 30 = .ok (.iconst 1, 1) := by decide +kernel
theorem dX12_settle_31 : decode cX12_settle 31 = .ok (.isub, 1) := by decide +kernel
theorem dX12_settle_32 : decode cX12_settle 32 = .ok (.putfield 300, 3) := by decide +kernel
theorem dX12_settle_35 : decode cX12_settle 35 = .ok (.aload_n 0, 1) := by decide +kernel
theorem dX12_settle_36 : decode cX12_settle 36 = .ok (.getfield 51, 3) := by decide +kernel
theorem dX12_settle_39 : decode cX12_settle 39 = .ok (.aload_n 0, 1) := by decide +kernel
theorem dX12_settle_40 : decode cX12_settle 40 = .ok (.getfield 300, 3) := by decide +kernel
theorem dX12_settle_43 : decode cX12_settle 43 = .ok (.iaload, 1) := by decide +kernel
theorem dX12_settle_44 : decode cX12_settle 44 = .ok (.bipush 29, 2) := by decide +kernel
theorem dX12_settle_46 : decode cX12_settle 46 = .ok (.if_icmp .eq 17, 3) := by decide +kernel
theorem dX12_settle_49 : decode cX12_settle 49 = .ok (.aload_n 0, 1) := by decide +kernel
theorem dX12_settle_50 : decode cX12_settle 50 = .ok (.getfield 51, 3) := by decide +kernel
theorem dX12_settle_53 : decode cX12_settle 53 = .ok (.aload_n 0, 1) := by decide +kernel
theorem dX12_settle_54 : decode cX12_settle 54 = .ok (.getfield 300, 3) := by decide +kernel
theorem dX12_settle_57 : decode cX12_settle 57 = .ok (.iaload, 1) := by decide +kernel
theorem dX12_settle_58 : decode cX12_settle 58 = .ok (.bipush 30, 2) := by decide +kernel
theorem dX12_settle_60 : decode cX12_settle 60 = .ok (.if_icmp .ne 24, 3) := by decide +kernel
theorem dX12_settle_63 : decode cX12_settle 63 = .ok (.aload_n 0, 1) := by decide +kernel
theorem dX12_settle_64 : decode cX12_settle 64 = .ok (.getfield 48, 3) := by decide +kernel
theorem dX12_settle_67 : decode cX12_settle 67 = .ok (.aload_n 0, 1) := by decide +kernel
theorem dX12_settle_68 : decode cX12_settle 68 = .ok (.getfield 54, 3) := by decide +kernel
theorem dX12_settle_71 : decode cX12_settle 71 = .ok (.aload_n 0, 1) := by decide +kernel
theorem dX12_settle_72 : decode cX12_settle 72 = .ok (.getfield 300, 3) := by decide +kernel
theorem dX12_settle_75 : decode cX12_settle 75 = .ok (.iaload, 1) := by decide +kernel
theorem dX12_settle_76 : decode cX12_settle 76 = .ok (.aload_n 0, 1) := by decide +kernel
theorem dX12_settle_77 : decode cX12_settle 77 = .ok (.getfield 297, 3) := by decide +kernel
theorem dX12_settle_80 : decode cX12_settle 80 = .ok (.iastore, 1) := by decide +kernel
theorem dX12_settle_81 : decode cX12_settle 81 = .ok (.goto (-81), 3) := by decide +kernel
theorem dX12_settle_84 : decode cX12_settle 84 = .ok (.aload_n 0, 1) := by decide +kernel
theorem dX12_settle_85 : decode cX12_settle 85 = .ok (.aload_n 0, 1) := by decide +kernel
theorem dX12_settle_86 : decode cX12_settle 86 = .ok (.getfield 51, 3) := by decide +kernel
theorem dX12_settle_89 : decode cX12_settle 89 = .ok (.aload_n 0, 1) := by decide +kernel
theorem dX12_settle_90 : decode cX12_settle 90 = .ok (.getfield 300, 3) := by decide +kernel
theorem dX12_settle_93 : decode cX12_settle 93 = .ok (.iaload, 1) := by decide +kernel
theorem dX12_settle_94 : decode cX12_settle 94 = .ok (.iconst 0, 1) := by decide +kernel
theorem dX12_settle_95 : decode cX12_settle 95 = .ok (.invokevirtual 306, 3) := by decide +kernel
theorem dX12_settle_98 : decode cX12_settle 98 = .ok (.goto (-98), 3) := by decide +kernel
theorem dX12_settle_101 : decode cX12_settle 101 = .ok (.return_, 1) := by decide +kernel
theorem dX12_inner_0 : decode cX12_inner 0 = .ok (.iconst (-1), 1) := by decide +kernel
theorem dX12_inner_1 : decode cX12_inner 1 = .ok (.istore_n 1, 1) := by decide +kernel
theorem dX12_inner_2 : decode cX12_inner 2 = .ok (.iconst 0, 1) := by decide +kernel
theorem dX12_inner_3 : decode cX12_inner 3 = .ok (.istore_n 2, 1) := by decide +kernel
theorem dX12_inner_4 : decode cX12_inner 4 = .ok (.iload_n 2, 1) := by decide +kernel
theorem dX12_inner_5 : decode cX12_inner 5 = .ok (.aload_n 0, 1) := by decide +kernel
theorem dX12_inner_6 : decode cX12_inner 6 = .ok (.getfield 300, 3) := by decide +kernel
theorem dX12_inner_9 : decode cX12_inner 9 = .ok (.if_icmp .ge 31, 3) := by decide +kernel
theorem dX12_inner_12 : decode cX12_inner 12 = .ok (.aload_n 0, 1) := by decide +kernel
theorem dX12_inner_13 : decode cX12_inner 13 = .ok (.getfield 51, 3) := by decide +kernel
theorem dX12_inner_16 : decode cX12_inner 16 = .ok (.iload_n 2, 1) := by decide +kernel
theorem dX12_inner_17 : decode cX12_inner 17 = .ok (.iaload, 1) := by decide +kernel
theorem dX12_inner_18 : decode cX12_inner 18 = .ok (.bipush 31, 2) := by decide +kernel
theorem dX12_inner_20 : decode cX12_inner 20 = .ok (.if_icmp .lt 12, 3) := by decide +kernel
theorem dX12_inner_23 : decode cX12_inner 23 = .ok (.aload_n 0, 1) := by decide +kernel
theorem dX12_inner_24 : decode cX12_inner 24 = .ok (.getfield 51, 3) := by decide +kernel
theorem dX12_inner_27 : decode cX12_inner 27 = .ok (.iload_n 2, 1) := by decide +kernel
theorem dX12_inner_28 : decode cX12_inner 28 = .ok (.iaload, 1) := by decide +kernel
theorem dX12_inner_29 : decode cX12_inner 29 = .ok (.goto 4, 3) := by decide +kernel
theorem dX12_inner_32 : decode cX12_inner 32 = .ok (.iload_n 1, 1) := by decide +kernel
theorem dX12_inner_33 : decode cX12_inner 33 = .ok (.istore_n 1, 1) := by decide +kernel
theorem dX12_inner_34 : decode cX12_inner 34 = .ok (.iinc 2 1, 3) := by decide +kernel
theorem dX12_inner_37 : decode cX12_inner 37 = .ok (.goto (-33), 3) := by decide +kernel
theorem dX12_inner_40 : decode cX12_inner 40 = .ok (.iload_n 1, 1) := by decide +kernel
theorem dX12_inner_41 : decode cX12_inner 41 = .ok (.ireturn, 1) := by decide +kernel
theorem dX12_isCompared_0 : decode cX12_isCompared 0 = .ok (.aload_n 0, 1) := by decide +kernel
theorem dX12_isCompared_1 : decode cX12_isCompared 1 = .ok (.getfield 300, 3) := by decide +kernel
theorem dX12_isCompared_4 : decode cX12_isCompared 4 = .ok (.iconst 1, 1) := by decide +kernel
theorem dX12_isCompared_5 : decode cX12_isCompared 5 = .ok (.isub, 1) := by decide +kernel
theorem dX12_isCompared_6 : decode cX12_isCompared 6 = .ok (.istore_n 1, 1) := by decide +kernel
theorem dX12_isCompared_7 : decode cX12_isCompared 7 = .ok (.iload_n 1, 1) := by decide +kernel
theorem dX12_isCompared_8 : decode cX12_isCompared 8 = .ok (.ifCond .lt 28, 3) := by decide +kernel
theorem dX12_isCompared_11 : decode cX12_isCompared 11 = .ok (.aload_n 0, 1) := by decide +kernel
theorem dX12_isCompared_12 : decode cX12_isCompared 12 = .ok (.getfield 51, 3) := by decide +kernel
theorem dX12_isCompared_15 : decode cX12_isCompared 15 = .ok (.iload_n 1, 1) := by decide +kernel
theorem dX12_isCompared_16 : decode cX12_isCompared 16 = .ok (.iaload, 1) := by decide +kernel
theorem dX12_isCompared_17 : decode cX12_isCompared 17 = .ok (.i2l, 1) := by decide +kernel
theorem dX12_isCompared_18 : decode cX12_isCompared 18 = .ok (.ldc2_w 310, 3) := by decide +kernel
theorem dX12_isCompared_21 : decode cX12_isCompared 21 = .ok (.ldc2_w 312, 3) := by decide +kernel
theorem dX12_isCompared_24 : decode cX12_isCompared 24 = .ok (.invokestatic 181, 3) := by decide +kernel
theorem dX12_isCompared_27 : decode cX12_isCompared 27 = .ok (.ifCond .eq 9, 3) := by decide +kernel
theorem dX12_isCompared_30 : decode cX12_isCompared 30 = .ok (.iinc 1 (-1), 3) := by decide +kernel
theorem dX12_isCompared_33 : decode cX12_isCompared 33 = .ok (.goto (-26), 3) := by decide +kernel
theorem dX12_isCompared_36 : decode cX12_isCompared 36 = .ok (.iload_n 1, 1) := by decide +kernel
theorem dX12_isCompared_37 : decode cX12_isCompared 37 = .ok (.ifCond .lt 26, 3) := by decide +kernel
theorem dX12_isCompared_40 : decode cX12_isCompared 40 = .ok (.aload_n 0, 1) := by decide +kernel
theorem dX12_isCompared_41 : decode cX12_isCompared 41 = .ok (.getfield 51, 3) := by decide +kernel
theorem dX12_isCompared_44 : decode cX12_isCompared 44 = .ok (.iload_n 1, 1) := by decide +kernel
theorem dX12_isCompared_45 : decode cX12_isCompared 45 = .ok (.iaload, 1) := by decide +kernel
theorem dX12_isCompared_46 : decode cX12_isCompared 46 = .ok (.i2l, 1) := by decide +kernel
theorem dX12_isCompared_47 : decode cX12_isCompared 47 = .ok (.ldc2_w 314, 3) := by decide +kernel
theorem dX12_isCompared_50 : decode cX12_isCompared 50 = .ok (.ldc2_w 316, 3) := by decide +kernel
theorem dX12_isCompared_53 : decode cX12_isCompared 53 = .ok (.invokestatic 181, 3) := by decide +kernel
theorem dX12_isCompared_56 : decode cX12_isCompared 56 = .ok (.ifCond .eq 7, 3) := by decide +kernel
theorem dX12_isCompared_59 : decode cX12_isCompared 59 = .ok (.iconst 1, 1) := by decide +kernel
theorem dX12_isCompared_60 : decode cX12_isCompared 60 = .ok (.goto 4, 3) := by decide +kernel
theorem dX12_isCompared_63 : decode cX12_isCompared 63 = .ok (.iconst 0, 1) := by decide +kernel
theorem dX12_isCompared_64 : decode cX12_isCompared 64 = .ok (.ireturn, 1) := by decide +kernel
theorem dX12_partAt_0 : decode cX12_partAt 0 = .ok (.iconst (-1), 1) := by decide +kernel
theorem dX12_partAt_1 : decode cX12_partAt 1 = .ok (.istore_n 1, 1) := by decide +kernel
theorem dX12_partAt_2 : decode cX12_partAt 2 = .ok (.iconst 0, 1) := by decide +kernel
theorem dX12_partAt_3 : decode cX12_partAt 3 = .ok (.istore_n 2, 1) := by decide +kernel
theorem dX12_partAt_4 : decode cX12_partAt 4 = .ok (.iload_n 2, 1) := by decide +kernel
theorem dX12_partAt_5 : decode cX12_partAt 5 = .ok (.bipush 8, 2) := by decide +kernel
theorem dX12_partAt_7 : decode cX12_partAt 7 = .ok (.if_icmp .ge 30, 3) := by decide +kernel
theorem dX12_partAt_10 : decode cX12_partAt 10 = .ok (.aload_n 0, 1) := by decide +kernel
theorem dX12_partAt_11 : decode cX12_partAt 11 = .ok (.aload_n 0, 1) := by decide +kernel
theorem dX12_partAt_12 : decode cX12_partAt 12 = .ok (.getfield 73, 3) := by decide +kernel
theorem dX12_partAt_15 : decode cX12_partAt 15 = .ok (.iload_n 2, 1) := by decide +kernel
theorem dX12_partAt_16 : decode cX12_partAt 16 = .ok (.laload, 1) := by decide +kernel
theorem dX12_partAt_17 : decode cX12_partAt 17 = .ok (.invokevirtual 318, 3) := by decide +kernel
theorem dX12_partAt_20 : decode cX12_partAt 20 = .ok (.ifCond .eq 9, 3) := by decide +kernel
theorem dX12_partAt_23 : decode cX12_partAt 23 = .ok (.iload_n 2, 1) := by decide +kernel
theorem dX12_partAt_24 : decode cX12_partAt 24 = .ok (.iconst 1, 1) := by decide +kernel
theorem dX12_partAt_25 : decode cX12_partAt 25 = .ok (.iadd, 1) := by decide +kernel
theorem dX12_partAt_26 : decode cX12_partAt 26 = .ok (.goto 4, 3) := by decide +kernel
theorem dX12_partAt_29 : decode cX12_partAt 29 = .ok (.iload_n 1, 1) := by decide +kernel
theorem dX12_partAt_30 : decode cX12_partAt 30 = .ok (.istore_n 1, 1) := by decide +kernel
theorem dX12_partAt_31 : decode cX12_partAt 31 = .ok (.iinc 2 1, 3) := by decide +kernel
theorem dX12_partAt_34 : decode cX12_partAt 34 = .ok (.goto (-30), 3) := by decide +kernel
theorem dX12_partAt_37 : decode cX12_partAt 37 = .ok (.iload_n 1, 1) := by decide +kernel
theorem dX12_partAt_38 : decode cX12_partAt 38 = .ok (.ireturn, 1) := by decide +kernel
theorem dX12_orderPartAt_0 : decode cX12_orderPartAt 0 = .ok (.iconst (-1), 1) := by decide +kernel
theorem dX12_orderPartAt_1 : decode cX12_orderPartAt 1 = .ok (.istore_n 1, 1) := by decide +kernel
theorem dX12_orderPartAt_2 : decode cX12_orderPartAt 2 = .ok (.iconst 0, 1) := by decide +kernel
theorem dX12_orderPartAt_3 : decode cX12_orderPartAt 3 = .ok (.istore_n 2, 1) := by decide +kernel
theorem dX12_orderPartAt_4 : decode cX12_orderPartAt 4 = .ok (.iload_n 2, 1) := by decide +kernel
theorem dX12_orderPartAt_5 : decode cX12_orderPartAt 5 = .ok (.bipush 7, 2) := by decide +kernel
theorem dX12_orderPartAt_7 : decode cX12_orderPartAt 7 = .ok (.if_icmp .ge 30, 3) := by decide +kernel
theorem dX12_orderPartAt_10 : decode cX12_orderPartAt 10 = .ok (.aload_n 0, 1) := by decide +kernel
theorem dX12_orderPartAt_11 : decode cX12_orderPartAt 11 = .ok (.aload_n 0, 1) := by decide +kernel
theorem dX12_orderPartAt_12 : decode cX12_orderPartAt 12 = .ok (.getfield 85, 3) := by decide +kernel
theorem dX12_orderPartAt_15 : decode cX12_orderPartAt 15 = .ok (.iload_n 2, 1) := by decide +kernel
theorem dX12_orderPartAt_16 : decode cX12_orderPartAt 16 = .ok (.laload, 1) := by decide +kernel
theorem dX12_orderPartAt_17 : decode cX12_orderPartAt 17 = .ok (.invokevirtual 318, 3) := by decide +kernel
theorem dX12_orderPartAt_20 : decode cX12_orderPartAt 20 = .ok (.ifCond .eq 9, 3) := by decide +kernel
theorem dX12_orderPartAt_23 : decode cX12_orderPartAt 23 = .ok (.iload_n 2, 1) := by decide +kernel
theorem dX12_orderPartAt_24 : decode cX12_orderPartAt 24 = .ok (.iconst 1, 1) := by decide +kernel
theorem dX12_orderPartAt_25 : decode cX12_orderPartAt 25 = .ok (.iadd, 1) := by decide +kernel
theorem dX12_orderPartAt_26 : decode cX12_orderPartAt 26 = .ok (.goto 4, 3) := by decide +kernel
theorem dX12_orderPartAt_29 : decode cX12_orderPartAt 29 = .ok (.iload_n 1, 1) := by decide +kernel
theorem dX12_orderPartAt_30 : decode cX12_orderPartAt 30 = .ok (.istore_n 1, 1) := by decide +kernel
theorem dX12_orderPartAt_31 : decode cX12_orderPartAt 31 = .ok (.iinc 2 1, 3) := by decide +kernel
theorem dX12_orderPartAt_34 : decode cX12_orderPartAt 34 = .ok (.goto (-30), 3) := by decide +kernel
theorem dX12_orderPartAt_37 : decode cX12_orderPartAt 37 = .ok (.iload_n 1, 1) := by decide +kernel
theorem dX12_orderPartAt_38 : decode cX12_orderPartAt 38 = .ok (.ireturn, 1) := by decide +kernel
theorem dX12_openBracket_0 : decode cX12_openBracket 0 = .ok (.aload_n 0, 1) := by decide +kernel
theorem dX12_openBracket_1 : decode cX12_openBracket 1 = .ok (.aload_n 0, 1) := by decide +kernel
theorem dX12_openBracket_2 : decode cX12_openBracket 2 = .ok (.getfield 322, 3) := by decide +kernel
theorem dX12_openBracket_5 : decode cX12_openBracket 5 = .ok (.bipush 8, 2) := by decide +kernel
theorem dX12_openBracket_7 : decode cX12_openBracket 7 = .ok (.if_icmp .ge 7, 3) := by decide +kernel
theorem dX12_openBracket_10 : decode cX12_openBracket 10 = .ok (.iconst 1, 1) := by decide +kernel
theorem dX12_openBracket_11 : decode cX12_openBracket 11 = .ok (.goto 4, 3) := by decide +kernel
theorem dX12_openBracket_14 : decode cX12_openBracket 14 = .ok (.iconst 0, 1) := by decide +kernel
theorem dX12_openBracket_15 : decode cX12_openBracket 15 = .ok (.invokevirtual 293, 3) := by decide +kernel
theorem dX12_openBracket_18 : decode cX12_openBracket 18 = .ok (.aload_n 0, 1) := by decide +kernel
theorem dX12_openBracket_19 : decode cX12_openBracket 19 = .ok (.getfield 260, 3) := by decide +kernel
theorem dX12_openBracket_22 : decode cX12_openBracket 22 = .ok (.ifCond .ne 19, 3) := by decide +kernel
theorem dX12_openBracket_25 : decode cX12_openBracket 25 = .ok (.aload_n 0, 1) := by decide +kernel
theorem dX12_openBracket_26 : decode cX12_openBracket 26 = .ok (.dup, 1) := by decide +kernel
theorem dX12_openBracket_27 : decode cX12_openBracket 27 = .ok (.getfield 322, 3) := by decide +kernel
theorem dX12_openBracket_30 : decode cX12_openBracket 30 = .ok (.iconst 1, 1) := by decide +kernel
theorem dX12_openBracket_31 : decode cX12_openBracket 31 = .ok (.iadd, 1) := by decide +kernel
theorem dX12_openBracket_32 : decode cX12_openBracket 32 = .ok (.putfield 322, 3) := by decide +kernel
theorem dX12_openBracket_35 : decode cX12_openBracket 35 = .ok (.aload_n 0, 1) := by decide +kernel
theorem dX12_openBracket_36 : decode cX12_openBracket 36 = .ok (.iload_n 1, 1) := by decide +kernel
theorem dX12_openBracket_37 : decode cX12_openBracket 37 = .ok (.iconst 0, 1) := by decide +kernel
theorem dX12_openBracket_38 : decode cX12_openBracket 38 = .ok (.invokevirtual 325, 3) := by decide +kernel
theorem dX12_openBracket_41 : decode cX12_openBracket 41 = .ok (.return_, 1) := by decide +kernel
theorem dX12_leaf_0 : decode cX12_leaf 0 = .ok (.aload_n 0, 1) := by decide +kernel
theorem dX12_leaf_1 : decode cX12_leaf 1 = .ok (.iload_n 1, 1) := by decide +kernel
theorem dX12_leaf_2 : decode cX12_leaf 2 = .ok (.ifCond .eq 16, 3) := by decide +kernel
theorem dX12_leaf_5 : decode cX12_leaf 5 = .ok (.aload_n 0, 1) := by decide +kernel
theorem dX12_leaf_6 : decode cX12_leaf 6 = .ok (.getfield 328, 3) := by decide +kernel
theorem dX12_leaf_9 : decode cX12_leaf 9 = .ok (.bipush 50, 2) := by decide +kernel
theorem dX12_leaf_11 : decode cX12_leaf 11 = .ok (.if_icmp .ge 7, 3) := by decide +kernel
theorem dX12_leaf_14 : decode cX12_leaf 14 = .ok (.iconst 1, 1) := by decide +kernel
theorem dX12_leaf_15 : decode cX12_leaf 15 = .ok (.goto 4, 3) := by decide +kernel
theorem dX12_leaf_18 : decode cX12_leaf 18 = .ok (.iconst 0, 1) := by decide +kernel
theorem dX12_leaf_19 : decode cX12_leaf 19 = .ok (.invokevirtual 293, 3) := by decide +kernel
theorem dX12_leaf_22 : decode cX12_leaf 22 = .ok (.aload_n 0, 1) := by decide +kernel
theorem dX12_leaf_23 : decode cX12_leaf 23 = .ok (.getfield 260, 3) := by decide +kernel
theorem dX12_leaf_26 : decode cX12_leaf 26 = .ok (.ifCond .ne 19, 3) := by decide +kernel
theorem dX12_leaf_29 : decode cX12_leaf 29 = .ok (.aload_n 0, 1) := by decide +kernel
theorem dX12_leaf_30 : decode cX12_leaf 30 = .ok (.iload_n 2, 1) := by decide +kernel
theorem dX12_leaf_31 : decode cX12_leaf 31 = .ok (.iload_n 3, 1) := by decide +kernel
theorem dX12_leaf_32 : decode cX12_leaf 32 = .ok (.invokevirtual 306, 3) := by decide +kernel
theorem dX12_leaf_35 : decode cX12_leaf 35 = .ok (.aload_n 0, 1) := by decide +kernel
theorem dX12_leaf_36 : decode cX12_leaf 36 = .ok (.dup, 1) := by decide +kernel
theorem dX12_leaf_37 : decode cX12_leaf 37 = .ok (.getfield 328, 3) := by decide +kernel
theorem dX12_leaf_40 : decode cX12_leaf 40 = .ok (.iconst 1, 1) := by decide +kernel
theorem dX12_leaf_41 : decode cX12_leaf 41 = .ok (.iadd, 1) := by decide +kernel
theorem dX12_leaf_42 : decode cX12_leaf 42 = .ok (.putfield 328, 3) := by decide +kernel
theorem dX12_leaf_45 : decode cX12_leaf 45 = .ok (.return_, 1) := by decide +kernel
theorem dX12_readPart_0 : decode cX12_readPart 0 = .ok (.aload_n 0, 1) := by decide +kernel
theorem dX12_readPart_1 : decode cX12_readPart 1 = .ok (.bipush 91, 2) := by decide +kernel
theorem dX12_readPart_3 : decode cX12_readPart 3 = .ok (.invokevirtual 331, 3) := by decide +kernel
theorem dX12_readPart_6 : decode cX12_readPart 6 = .ok (.ifCond .eq 11, 3) := by decide +kernel
theorem dX12_readPart_9 : decode cX12_readPart 9 = .ok (.aload_n 0, 1) := by decide +kernel
theorem dX12_readPart_10 : decode cX12_readPart 10 = .ok (.bipush 32, 2) := by decide +kernel
theorem dX12_readPart_12 : decode cX12_readPart 12 = .ok (.invokevirtual 334, 3) := by decide +kernel
theorem dX12_readPart_15 : decode cX12_readPart 15 = .ok (.iconst 1, 1) := by decide +kernel
theorem dX12_readPart_16 : decode cX12_readPart 16 = .ok (.ireturn, 1) := by decide +kernel
theorem dX12_readPart_17 : decode cX12_readPart 17 = .ok (.aload_n 0, 1) := by decide +kernel
theorem dX12_readPart_18 : decode cX12_readPart 18 = .ok (.getfield 337, 3) := by decide +kernel
theorem dX12_readPart_21 : decode cX12_readPart 21 = .ok (.ifCond .eq 10, 3) := by decide +kernel
theorem dX12_readPart_24 : decode cX12_readPart 24 = .ok (.aload_n 0, 1) := by decide +kernel
theorem dX12_readPart_25 : decode cX12_readPart 25 = .ok (.invokevirtual 340, 3) := by decide +kernel
theorem dX12_readPart_28 : decode cX12_readPart 28 = .ok (.goto 7, 3) := by decide +kernel
theorem dX12_readPart_31 : decode cX12_readPart 31 = .ok (.aload_n 0, 1) := by decide +kernel
theorem dX12_readPart_32 : decode cX12_readPart 32 = .ok (.invokevirtual 344, 3) := by decide +kernel
theorem dX12_readPart_35 : decode cX12_readPart 35 = .ok (.istore_n 1, 1) := by decide +kernel
theorem dX12_readPart_36 : decode cX12_readPart 36 = .ok (.aload_n 0, 1) := by decide +kernel
theorem dX12_readPart_37 : decode cX12_readPart 37 = .ok (.getfield 280, 3) := by decide +kernel
theorem dX12_readPart_40 : decode cX12_readPart 40 = .ok (.iconst 2, 1) := by decide +kernel
theorem dX12_readPart_41 : decode cX12_readPart 41 = .ok (.if_icmp .ne 18, 3) := by decide +kernel
theorem dX12_readPart_44 : decode cX12_readPart 44 = .ok (.aload_n 0, 1) := by decide +kernel
theorem dX12_readPart_45 : decode cX12_readPart 45 = .ok (.getfield 270, 3) := by decide +kernel
theorem dX12_readPart_48 : decode cX12_readPart 48 = .ok (.ldc2_w 347, 3) := by decide +kernel
theorem dX12_readPart_51 : decode cX12_readPart 51 = .ok (.lcmp, 1) := by decide +kernel
theorem dX12_readPart_52 : decode cX12_readPart 52 = .ok (.ifCond .gt 7, 3) := by decide +kernel
theorem dX12_readPart_55 : decode cX12_readPart 55 = .ok (.iconst 1, 1) := by decide +kernel
theorem dX12_readPart_56 : decode cX12_readPart 56 = .ok (.goto 4, 3) := by decide +kernel
theorem dX12_readPart_59 : decode cX12_readPart 59 = .ok (.iconst 0, 1) := by decide +kernel
theorem dX12_readPart_60 : decode cX12_readPart 60 = .ok (.istore_n 2, 1) := by decide +kernel
theorem dX12_readPart_61 : decode cX12_readPart 61 = .ok (.aload_n 0, 1) := by decide +kernel
theorem dX12_readPart_62 : decode cX12_readPart 62 = .ok (.iload_n 1, 1) := by decide +kernel
theorem dX12_readPart_63 : decode cX12_readPart 63 = .ok (.iconst (-1), 1) := by decide +kernel
theorem dX12_readPart_64 : decode cX12_readPart 64 = .ok (.if_icmp .ne 7, 3) := by decide +kernel
theorem dX12_readPart_67 : decode cX12_readPart 67 = .ok (.iload_n 2, 1) := by decide +kernel
theorem dX12_readPart_68 : decode cX12_readPart 68 = .ok (.ifCond .eq 7, 3) := by decide +kernel
theorem dX12_readPart_71 : decode cX12_readPart 71 = .ok (.iconst 1, 1) := by decide +kernel
theorem dX12_readPart_72 : decode cX12_readPart 72 = .ok (.goto 4, 3) := by decide +kernel
theorem dX12_readPart_75 : decode cX12_readPart 75 = .ok (.iconst 0, 1) := by decide +kernel
theorem dX12_readPart_76 : decode cX12_readPart 76 = .ok (.iload_n 1, 1) := by decide +kernel
theorem dX12_readPart_77 : decode cX12_readPart 77 = .ok (.iconst (-1), 1) := by decide +kernel
theorem dX12_readPart_78 : decode cX12_readPart 78 = .ok (.if_icmp .ne 7, 3) := by decide +kernel
theorem dX12_readPart_81 : decode cX12_readPart 81 = .ok (.iconst 0, 1) := by decide +kernel
theorem dX12_readPart_82 : decode cX12_readPart 82 = .ok (.goto 4, 3) := by decide +kernel
theorem dX12_readPart_85 : decode cX12_readPart 85 = .ok (.iload_n 1, 1) := by decide +kernel
theorem dX12_readPart_86 : decode cX12_readPart 86 = .ok (.iload_n 2, 1) := by decide +kernel
theorem dX12_readPart_87 : decode cX12_readPart 87 = .ok (.ifCond .eq 11, 3) := by decide +kernel
theorem dX12_readPart_90 : decode cX12_readPart 90 = .ok (.aload_n 0, 1) := by decide +kernel
theorem dX12_readPart_91 : decode cX12_readPart 91 = .ok (.getfield 270, 3) := by decide +kernel
theorem dX12_readPart_94 : decode cX12_readPart 94 = .ok (.l2i, 1) := by decide +kernel
theorem dX12_readPart_95 : decode cX12_readPart 95 = .ok (.goto 4, 3) := by decide +kernel
theorem dX12_readPart_98 : decode cX12_readPart 98 = .ok (.iconst 0, 1) := by decide +kernel
theorem dX12_readPart_99 : decode cX12_readPart 99 = .ok (.invokevirtual 349, 3) := by decide +kernel
theorem dX12_readPart_102 : decode cX12_readPart 102 = .ok (.aload_n 0, 1) := by decide +kernel
theorem dX12_readPart_103 : decode cX12_readPart 103 = .ok (.getfield 337, 3) := by decide +kernel
theorem dX12_readPart_106 : decode cX12_readPart 106 = .ok (.ifCond .eq 48, 3) := by decide +kernel
theorem dX12_readPart_109 : decode cX12_readPart 109 = .ok (.iload_n 1, 1) := by decide +kernel
theorem dX12_readPart_110 : decode cX12_readPart 110 = .ok (.iconst 5, 1) := by decide +kernel
theorem dX12_readPart_111 : decode cX12_readPart 111 = .ok (.if_icmp .lt 43, 3) := by decide +kernel
theorem dX12_readPart_114 : decode cX12_readPart 114 = .ok (.aload_n 0, 1) := by decide +kernel
theorem dX12_readPart_115 : decode cX12_readPart 115 = .ok (.getfield 260, 3) := by decide +kernel
theorem dX12_readPart_118 : decode cX12_readPart 118 = .ok (.ifCond .ne 36, 3) := by decide +kernel
theorem dX12_readPart_121 : decode cX12_readPart 121 = .ok (.aload_n 0, 1) := by decide +kernel
theorem dX12_readPart_122 : decode cX12_readPart 122 = .ok (.getfield 297, 3) := by decide +kernel
theorem dX12_readPart_125 : decode cX12_readPart 125 = .ok (.iconst 1, 1) := by decide +kernel
theorem dX12_readPart_126 : decode cX12_readPart 126 = .ok (.isub, 1) := by decide +kernel
theorem dX12_readPart_127 : decode cX12_readPart 127 = .ok (.istore_n 3, 1) := by decide +kernel
theorem dX12_readPart_128 : decode cX12_readPart 128 = .ok (.aload_n 0, 1) := by decide +kernel
theorem dX12_readPart_129 : decode cX12_readPart 129 = .ok (.getfield 48, 3) := by decide +kernel
theorem dX12_readPart_132 : decode cX12_readPart 132 = .ok (.iload_n 3, 1) := by decide +kernel
theorem dX12_readPart_133 : decode cX12_readPart 133 = .ok (.aload_n 0, 1) := by decide +kernel
theorem dX12_readPart_134 : decode cX12_readPart 134 = .ok (.lconst 0, 1) := by decide +kernel
theorem dX12_readPart_135 : decode cX12_readPart 135 = .ok (.iload_n 1, 1) := by decide +kernel
theorem dX12_readPart_136 : decode cX12_readPart 136 = .ok (.bipush 7, 2) := by decide +kernel
theorem dX12_readPart_138 : decode cX12_readPart 138 = .ok (.if_icmp .ne 9, 3) := by decide +kernel
theorem dX12_readPart_141 : decode cX12_readPart 141 = .ok (.ldc2_w 353, 3) := by decide +kernel
theorem dX12_readPart_144 : decode cX12_readPart 144 = .ok (.goto 6, 3) := by decide +kernel
theorem dX12_readPart_147 : decode cX12_readPart 147 = .ok (.ldc2_w 355, 3) := by decide +kernel
theorem dX12_readPart_150 : decode cX12_readPart 150 = .ok (.invokevirtual 357, 3) := by decide +kernel
theorem dX12_readPart_153 : decode cX12_readPart 153 = .ok (.iastore, 1) := by decide +kernel
theorem dX12_readPart_154 : decode cX12_readPart 154 = .ok (.iconst 3, 1) := by decide +kernel
theorem dX12_readPart_155 : decode cX12_readPart 155 = .ok (.ireturn, 1) := by decide +kernel
theorem dX12_readPlain_0 : decode cX12_readPlain 0 = .ok (.aload_n 0, 1) := by decide +kernel
theorem dX12_readPlain_1 : decode cX12_readPlain 1 = .ok (.ldc2_w 361, 3) := by decide +kernel
theorem dX12_readPlain_4 : decode cX12_readPlain 4 = .ok (.invokevirtual 318, 3) := by decide +kernel
theorem dX12_readPlain_7 : decode cX12_readPlain 7 = .ok (.ifCond .eq 16, 3) := by decide +kernel
theorem dX12_readPlain_10 : decode cX12_readPlain 10 = .ok (.aload_n 0, 1) := by decide +kernel
theorem dX12_readPlain_11 : decode cX12_readPlain 11 = .ok (.bipush 28, 2) := by decide +kernel
theorem dX12_readPlain_13 : decode cX12_readPlain 13 = .ok (.iconst 0, 1) := by decide +kernel
theorem dX12_readPlain_14 : decode cX12_readPlain 14 = .ok (.invokevirtual 325, 3) := by decide +kernel
theorem dX12_readPlain_17 : decode cX12_readPlain 17 = .ok (.aload_n 0, 1) := by decide +kernel
theorem dX12_readPlain_18 : decode cX12_readPlain 18 = .ok (.invokevirtual 264, 3) := by decide +kernel
theorem dX12_readPlain_21 : decode cX12_readPlain 21 = .ok (.iconst 0, 1) := by decide +kernel
theorem dX12_readPlain_22 : decode cX12_readPlain 22 = .ok (.ireturn, 1) := by decide +kernel
theorem dX12_readPlain_23 : decode cX12_readPlain 23 = .ok (.aload_n 0, 1) := by decide +kernel
theorem dX12_readPlain_24 : decode cX12_readPlain 24 = .ok (.bipush 40, 2) := by decide +kernel
theorem dX12_readPlain_26 : decode cX12_readPlain 26 = .ok (.invokevirtual 331, 3) := by decide +kernel
theorem dX12_readPlain_29 : decode cX12_readPlain 29 = .ok (.ifCond .eq 11, 3) := by decide +kernel
theorem dX12_readPlain_32 : decode cX12_readPlain 32 = .ok (.aload_n 0, 1) := by decide +kernel
theorem dX12_readPlain_33 : decode cX12_readPlain 33 = .ok (.bipush 31, 2) := by decide +kernel
theorem dX12_readPlain_35 : decode cX12_readPlain 35 = .ok (.invokevirtual 334, 3) := by decide +kernel
theorem dX12_readPlain_38 : decode cX12_readPlain 38 = .ok (.iconst 0, 1) := by decide +kernel
theorem dX12_readPlain_39 : decode cX12_readPlain 39 = .ok (.ireturn, 1) := by decide +kernel
theorem dX12_readPlain_40 : decode cX12_readPlain 40 = .ok (.aload_n 0, 1) := by decide +kernel
theorem dX12_readPlain_41 : decode cX12_readPlain 41 = .ok (.invokevirtual 363, 3) := by decide +kernel
theorem dX12_readPlain_44 : decode cX12_readPlain 44 = .ok (.ireturn, 1) := by decide +kernel
theorem dX12_behindSum_0 : decode cX12_behindSum 0 = .ok (.aload_n 0, 1) := by decide +kernel
theorem dX12_behindSum_1 : decode cX12_behindSum 1 = .ok (.bipush 43, 2) := by decide +kernel
theorem dX12_behindSum_3 : decode cX12_behindSum 3 = .ok (.invokevirtual 331, 3) := by decide +kernel
theorem dX12_behindSum_6 : decode cX12_behindSum 6 = .ok (.ifCond .eq 8, 3) := by decide +kernel
theorem dX12_behindSum_9 : decode cX12_behindSum 9 = .ok (.bipush 20, 2) := by decide +kernel
theorem dX12_behindSum_11 : decode cX12_behindSum 11 = .ok (.goto 60, 3) := by decide +kernel
theorem dX12_behindSum_14 : decode cX12_behindSum 14 = .ok (.aload_n 0, 1) := by decide +kernel
theorem dX12_behindSum_15 : decode cX12_behindSum 15 = .ok (.bipush 45, 2) := by decide +kernel
theorem dX12_behindSum_17 : decode cX12_behindSum 17 = .ok (.invokevirtual 331, 3) := by decide +kernel
theorem dX12_behindSum_20 : decode cX12_behindSum 20 = .ok (.ifCond .eq 8, 3) := by decide +kernel
theorem dX12_behindSum_23 : decode cX12_behindSum 23 = .ok (.bipush 21, 2) := by decide +kernel
theorem dX12_behindSum_25 : decode cX12_behindSum 25 = .ok (.goto 46, 3) := by decide +kernel
theorem dX12_behindSum_28 : decode cX12_behindSum 28 = .ok (.aload_n 0, 1) := by decide +kernel
theorem dX12_behindSum_29 : decode cX12_behindSum 29 = .ok (.bipush 42, 2) := by decide +kernel
theorem dX12_behindSum_31 : decode cX12_behindSum 31 = .ok (.invokevirtual 331, 3) := by decide +kernel
theorem dX12_behindSum_34 : decode cX12_behindSum 34 = .ok (.ifCond .eq 8, 3) := by decide +kernel
theorem dX12_behindSum_37 : decode cX12_behindSum 37 = .ok (.bipush 22, 2) := by decide +kernel
theorem dX12_behindSum_39 : decode cX12_behindSum 39 = .ok (.goto 32, 3) := by decide +kernel
theorem dX12_behindSum_42 : decode cX12_behindSum 42 = .ok (.aload_n 0, 1) := by decide +kernel
theorem dX12_behindSum_43 : decode cX12_behindSum 43 = .ok (.bipush 47, 2) := by decide +kernel
theorem dX12_behindSum_45 : decode cX12_behindSum 45 = .ok (.invokevirtual 331, 3) := by decide +kernel
theorem dX12_behindSum_48 : decode cX12_behindSum 48 = .ok (.ifCond .eq 8, 3) := by decide +kernel
theorem dX12_behindSum_51 : decode cX12_behindSum 51 = .ok (.bipush 23, 2) := by decide +kernel
theorem dX12_behindSum_53 : decode cX12_behindSum 53 = .ok (.goto 18, 3) := by decide +kernel
theorem dX12_behindSum_56 : decode cX12_behindSum 56 = .ok (.aload_n 0, 1) := by decide +kernel
theorem dX12_behindSum_57 : decode cX12_behindSum 57 = .ok (.bipush 37, 2) := by decide +kernel
theorem dX12_behindSum_59 : decode cX12_behindSum 59 = .ok (.invokevirtual 331, 3) := by decide +kernel
theorem dX12_behindSum_62 : decode cX12_behindSum 62 = .ok (.ifCond .eq 8, 3) := by decide +kernel
theorem dX12_behindSum_65 : decode cX12_behindSum 65 = .ok (.bipush 24, 2) := by decide +kernel
theorem dX12_behindSum_67 : decode cX12_behindSum 67 = .ok (.goto 4, 3) := by decide +kernel
theorem dX12_behindSum_70 : decode cX12_behindSum 70 = .ok (.iconst (-1), 1) := by decide +kernel
theorem dX12_behindSum_71 : decode cX12_behindSum 71 = .ok (.istore_n 2, 1) := by decide +kernel
theorem dX12_behindSum_72 : decode cX12_behindSum 72 = .ok (.iload_n 2, 1) := by decide +kernel
theorem dX12_behindSum_73 : decode cX12_behindSum 73 = .ok (.iconst (-1), 1) := by decide +kernel
theorem dX12_behindSum_74 : decode cX12_behindSum 74 = .ok (.if_icmp .eq 23, 3) := by decide +kernel
theorem dX12_behindSum_77 : decode cX12_behindSum 77 = .ok (.aload_n 0, 1) := by decide +kernel
theorem dX12_behindSum_78 : decode cX12_behindSum 78 = .ok (.iload_n 2, 1) := by decide +kernel
theorem dX12_behindSum_79 : decode cX12_behindSum 79 = .ok (.invokestatic 303, 3) := by decide +kernel
theorem dX12_behindSum_82 : decode cX12_behindSum 82 = .ok (.invokevirtual 366, 3) := by decide +kernel
theorem dX12_behindSum_85 : decode cX12_behindSum 85 = .ok (.aload_n 0, 1) := by decide +kernel
theorem dX12_behindSum_86 : decode cX12_behindSum 86 = .ok (.iload_n 2, 1) := by decide +kernel
theorem dX12_behindSum_87 : decode cX12_behindSum 87 = .ok (.iconst 0, 1) := by decide +kernel
theorem dX12_behindSum_88 : decode cX12_behindSum 88 = .ok (.invokevirtual 325, 3) := by decide +kernel
theorem dX12_behindSum_91 : decode cX12_behindSum 91 = .ok (.aload_n 0, 1) := by decide +kernel
theorem dX12_behindSum_92 : decode cX12_behindSum 92 = .ok (.invokevirtual 264, 3) := by decide +kernel
theorem dX12_behindSum_95 : decode cX12_behindSum 95 = .ok (.iconst 1, 1) := by decide +kernel
theorem dX12_behindSum_96 : decode cX12_behindSum 96 = .ok (.ireturn, 1) := by decide +kernel
theorem dX12_behindSum_97 : decode cX12_behindSum 97 = .ok (.aload_n 0, 1) := by decide +kernel
theorem dX12_behindSum_98 : decode cX12_behindSum 98 = .ok (.invokevirtual 369, 3) := by decide +kernel
theorem dX12_behindSum_101 : decode cX12_behindSum 101 = .ok (.istore_n 3, 1) := by decide +kernel
theorem dX12_behindSum_102 : decode cX12_behindSum 102 = .ok (.iload_n 3, 1) := by decide +kernel
theorem dX12_behindSum_103 : decode cX12_behindSum 103 = .ok (.bipush 32, 2) := by decide +kernel
theorem dX12_behindSum_105 : decode cX12_behindSum 105 = .ok (.if_icmp .ne 47, 3) := by decide +kernel
theorem dX12_behindSum_108 : decode cX12_behindSum 108 = .ok (.aload_n 0, 1) := by decide +kernel
theorem dX12_behindSum_109 : decode cX12_behindSum 109 = .ok (.aload_n 0, 1) := by decide +kernel
theorem dX12_behindSum_110 : decode cX12_behindSum 110 = .ok (.bipush 93, 2) := by decide +kernel
theorem dX12_behindSum_112 : decode cX12_behindSum 112 = .ok (.invokevirtual 331, 3) := by decide +kernel
theorem dX12_behindSum_115 : decode cX12_behindSum 115 = .ok (.invokevirtual 293, 3) := by decide +kernel
theorem dX12_behindSum_118 : decode cX12_behindSum 118 = .ok (.aload_n 0, 1) := by decide +kernel
theorem dX12_behindSum_119 : decode cX12_behindSum 119 = .ok (.getfield 260, 3) := by decide +kernel
theorem dX12_behindSum_122 : decode cX12_behindSum 122 = .ok (.ifCond .ne 28, 3) := by decide +kernel
theorem dX12_behindSum_125 : decode cX12_behindSum 125 = .ok (.aload_n 0, 1) := by decide +kernel
theorem dX12_behindSum_126 : decode cX12_behindSum 126 = .ok (.iconst 5, 1) := by decide +kernel
theorem dX12_behindSum_127 : decode cX12_behindSum 127 = .ok (.invokevirtual 366, 3) := by decide +kernel
theorem dX12_behindSum_130 : decode cX12_behindSum 130 = .ok (.aload_n 0, 1) := by decide +kernel
theorem dX12_behindSum_131 : decode cX12_behindSum 131 = .ok (.dup, 1) := by decide +kernel
theorem dX12_behindSum_132 : decode cX12_behindSum 132 = .ok (.getfield 300, 3) := by decide +kernel
theorem dX12_behindSum_135 : decode cX12_behindSum 135 = .ok (.iconst 1, 1) := by decide +kernel
theorem dX12_behindSum_136 : decode cX12_behindSum 136 = .ok (.isub, 1) := by decide +kernel
theorem dX12_behindSum_137 : decode cX12_behindSum 137 = .ok (.putfield 300, 3) := by decide +kernel
theorem dX12_behindSum_140 : decode cX12_behindSum 140 = .ok (.aload_n 0, 1) := by decide +kernel
theorem dX12_behindSum_141 : decode cX12_behindSum 141 = .ok (.dup, 1) := by decide +kernel
theorem dX12_behindSum_142 : decode cX12_behindSum 142 = .ok (.getfield 322, 3) := by decide +kernel
theorem dX12_behindSum_145 : decode cX12_behindSum 145 = .ok (.iconst 1, 1) := by decide +kernel
theorem dX12_behindSum_146 : decode cX12_behindSum 146 = .ok (.isub, 1) := by decide +kernel
theorem dX12_behindSum_147 : decode cX12_behindSum 147 = .ok (.putfield 322, 3) := by decide +kernel
theorem dX12_behindSum_150 : decode cX12_behindSum 150 = .ok (.iconst 3, 1) := by decide +kernel
theorem dX12_behindSum_151 : decode cX12_behindSum 151 = .ok (.ireturn, 1) := by decide +kernel
theorem dX12_behindSum_152 : decode cX12_behindSum 152 = .ok (.iload_n 3, 1) := by decide +kernel
theorem dX12_behindSum_153 : decode cX12_behindSum 153 = .ok (.iconst (-1), 1) := by decide +kernel
theorem dX12_behindSum_154 : decode cX12_behindSum 154 = .ok (.if_icmp .ne 9, 3) := by decide +kernel
theorem dX12_behindSum_157 : decode cX12_behindSum 157 = .ok (.iload_n 1, 1) := by decide +kernel
theorem dX12_behindSum_158 : decode cX12_behindSum 158 = .ok (.ifCond .ne 5, 3) := by decide +kernel
theorem dX12_behindSum_161 : decode cX12_behindSum 161 = .ok (.iconst 4, 1) := by decide +kernel
theorem dX12_behindSum_162 : decode cX12_behindSum 162 = .ok (.ireturn, 1) := by decide +kernel
theorem dX12_behindSum_163 : decode cX12_behindSum 163 = .ok (.aload_n 0, 1) := by decide +kernel
theorem dX12_behindSum_164 : decode cX12_behindSum 164 = .ok (.invokevirtual 372, 3) := by decide +kernel
theorem dX12_behindSum_167 : decode cX12_behindSum 167 = .ok (.ifCond .eq 5, 3) := by decide +kernel
theorem dX12_behindSum_170 : decode cX12_behindSum 170 = .ok (.iconst 2, 1) := by decide +kernel
theorem dX12_behindSum_171 : decode cX12_behindSum 171 = .ok (.ireturn, 1) := by decide +kernel
theorem dX12_behindSum_172 : decode cX12_behindSum 172 = .ok (.aload_n 0, 1) := by decide +kernel
theorem dX12_behindSum_173 : decode cX12_behindSum 173 = .ok (.bipush 60, 2) := by decide +kernel
theorem dX12_behindSum_175 : decode cX12_behindSum 175 = .ok (.invokevirtual 331, 3) := by decide +kernel
theorem dX12_behindSum_178 : decode cX12_behindSum 178 = .ok (.ifCond .eq 8, 3) := by decide +kernel
theorem dX12_behindSum_181 : decode cX12_behindSum 181 = .ok (.bipush 25, 2) := by decide +kernel
theorem dX12_behindSum_183 : decode cX12_behindSum 183 = .ok (.goto 19, 3) := by decide +kernel
theorem dX12_behindSum_186 : decode cX12_behindSum 186 = .ok (.aload_n 0, 1) := by decide +kernel
theorem dX12_behindSum_187 : decode cX12_behindSum 187 = .ok (.bipush 62, 2) := by decide +kernel
theorem dX12_behindSum_189 : decode cX12_behindSum 189 = .ok (.invokevirtual 331, 3) := by decide +kernel
theorem dX12_behindSum_192 : decode cX12_behindSum 192 = .ok (.ifCond .eq 8, 3) := by decide +kernel
theorem dX12_behindSum_195 : decode cX12_behindSum 195 = .ok (.bipush 26, 2) := by decide +kernel
theorem dX12_behindSum_197 : decode cX12_behindSum 197 = .ok (.goto 5, 3) := by decide +kernel
theorem dX12_behindSum_200 : decode cX12_behindSum 200 = .ok (.bipush 27, 2) := by decide +kernel
theorem dX12_behindSum_202 : decode cX12_behindSum 202 = .ok (.istore_n 2, 1) := by decide +kernel
theorem dX12_behindSum_203 : decode cX12_behindSum 203 = .ok (.aload_n 0, 1) := by decide +kernel
theorem dX12_behindSum_204 : decode cX12_behindSum 204 = .ok (.iload_n 2, 1) := by decide +kernel
theorem dX12_behindSum_205 : decode cX12_behindSum 205 = .ok (.bipush 27, 2) := by decide +kernel
theorem dX12_behindSum_207 : decode cX12_behindSum 207 = .ok (.if_icmp .ne 12, 3) := by decide +kernel
theorem dX12_behindSum_210 : decode cX12_behindSum 210 = .ok (.aload_n 0, 1) := by decide +kernel
theorem dX12_behindSum_211 : decode cX12_behindSum 211 = .ok (.bipush 61, 2) := by decide +kernel
theorem dX12_behindSum_213 : decode cX12_behindSum 213 = .ok (.invokevirtual 331, 3) := by decide +kernel
theorem dX12_behindSum_216 : decode cX12_behindSum 216 = .ok (.ifCond .eq 7, 3) := by decide +kernel
theorem dX12_behindSum_219 : decode cX12_behindSum 219 = .ok (.iconst 1, 1) := by decide +kernel
theorem dX12_behindSum_220 : decode cX12_behindSum 220 = .ok (.goto 4, 3) := by decide +kernel
theorem dX12_behindSum_223 : decode cX12_behindSum 223 = .ok (.iconst 0, 1) := by decide +kernel
theorem dX12_behindSum_224 : decode cX12_behindSum 224 = .ok (.invokevirtual 293, 3) := by decide +kernel
theorem dX12_behindSum_227 : decode cX12_behindSum 227 = .ok (.aload_n 0, 1) := by decide +kernel
theorem dX12_behindSum_228 : decode cX12_behindSum 228 = .ok (.getfield 260, 3) := by decide +kernel
theorem dX12_behindSum_231 : decode cX12_behindSum 231 = .ok (.ifCond .ne 14, 3) := by decide +kernel
theorem dX12_behindSum_234 : decode cX12_behindSum 234 = .ok (.aload_n 0, 1) := by decide +kernel
theorem dX12_behindSum_235 : decode cX12_behindSum 235 = .ok (.iconst 5, 1) := by decide +kernel
theorem dX12_behindSum_236 : decode cX12_behindSum 236 = .ok (.invokevirtual 366, 3) := by decide +kernel
theorem dX12_behindSum_239 : decode cX12_behindSum 239 = .ok (.aload_n 0, 1) := by decide +kernel
theorem dX12_behindSum_240 : decode cX12_behindSum 240 = .ok (.iload_n 2, 1) := by decide +kernel
theorem dX12_behindSum_241 : decode cX12_behindSum 241 = .ok (.iconst 0, 1) := by decide +kernel
theorem dX12_behindSum_242 : decode cX12_behindSum 242 = .ok (.invokevirtual 325, 3) := by decide +kernel
theorem dX12_behindSum_245 : decode cX12_behindSum 245 = .ok (.iconst 1, 1) := by decide +kernel
theorem dX12_behindSum_246 : decode cX12_behindSum 246 = .ok (.ireturn, 1) := by decide +kernel
theorem dX12_behindTest_0 : decode cX12_behindTest 0 = .ok (.aload_n 0, 1) := by decide +kernel
theorem dX12_behindTest_1 : decode cX12_behindTest 1 = .ok (.ldc2_w 376, 3) := by decide +kernel
theorem dX12_behindTest_4 : decode cX12_behindTest 4 = .ok (.invokevirtual 318, 3) := by decide +kernel
theorem dX12_behindTest_7 : decode cX12_behindTest 7 = .ok (.istore_n 1, 1) := by decide +kernel
theorem dX12_behindTest_8 : decode cX12_behindTest 8 = .ok (.iload_n 1, 1) := by decide +kernel
theorem dX12_behindTest_9 : decode cX12_behindTest 9 = .ok (.ifCond .ne 13, 3) := by decide +kernel
theorem dX12_behindTest_12 : decode cX12_behindTest 12 = .ok (.aload_n 0, 1) := by decide +kernel
theorem dX12_behindTest_13 : decode cX12_behindTest 13 = .ok (.ldc2_w 378, 3) := by decide +kernel
theorem dX12_behindTest_16 : decode cX12_behindTest 16 = .ok (.invokevirtual 318, 3) := by decide +kernel
theorem dX12_behindTest_19 : decode cX12_behindTest 19 = .ok (.ifCond .eq 57, 3) := by decide +kernel
theorem dX12_behindTest_22 : decode cX12_behindTest 22 = .ok (.aload_n 0, 1) := by decide +kernel
theorem dX12_behindTest_23 : decode cX12_behindTest 23 = .ok (.iload_n 1, 1) := by decide +kernel
theorem dX12_behindTest_24 : decode cX12_behindTest 24 = .ok (.ifCond .eq 7, 3) := by decide +kernel
theorem dX12_behindTest_27 : decode cX12_behindTest 27 = .ok (.iconst 2, 1) := by decide +kernel
theorem dX12_behindTest_28 : decode cX12_behindTest 28 = .ok (.goto 4, 3) := by decide +kernel
theorem dX12_behindTest_31 : decode cX12_behindTest 31 = .ok (.iconst 1, 1) := by decide +kernel
theorem dX12_behindTest_32 : decode cX12_behindTest 32 = .ok (.invokevirtual 366, 3) := by decide +kernel
theorem dX12_behindTest_35 : decode cX12_behindTest 35 = .ok (.aload_n 0, 1) := by decide +kernel
theorem dX12_behindTest_36 : decode cX12_behindTest 36 = .ok (.iload_n 1, 1) := by decide +kernel
theorem dX12_behindTest_37 : decode cX12_behindTest 37 = .ok (.ifCond .eq 8, 3) := by decide +kernel
theorem dX12_behindTest_40 : decode cX12_behindTest 40 = .ok (.bipush 29, 2) := by decide +kernel
theorem dX12_behindTest_42 : decode cX12_behindTest 42 = .ok (.goto 5, 3) := by decide +kernel
theorem dX12_behindTest_45 : decode cX12_behindTest 45 = .ok (.bipush 30, 2) := by decide +kernel
theorem dX12_behindTest_47 : decode cX12_behindTest 47 = .ok (.aload_n 0, 1) := by decide +kernel
theorem dX12_behindTest_48 : decode cX12_behindTest 48 = .ok (.getfield 297, 3) := by decide +kernel
theorem dX12_behindTest_51 : decode cX12_behindTest 51 = .ok (.invokevirtual 325, 3) := by decide +kernel
theorem dX12_behindTest_54 : decode cX12_behindTest 54 = .ok (.aload_n 0, 1) := by decide +kernel
theorem dX12_behindTest_55 : decode cX12_behindTest 55 = .ok (.iload_n 1, 1) := by decide +kernel
theorem dX12_behindTest_56 : decode cX12_behindTest 56 = .ok (.ifCond .eq 8, 3) := by decide +kernel
theorem dX12_behindTest_59 : decode cX12_behindTest 59 = .ok (.bipush 29, 2) := by decide +kernel
theorem dX12_behindTest_61 : decode cX12_behindTest 61 = .ok (.goto 5, 3) := by decide +kernel
theorem dX12_behindTest_64 : decode cX12_behindTest 64 = .ok (.bipush 30, 2) := by decide +kernel
theorem dX12_behindTest_66 : decode cX12_behindTest 66 = .ok (.iconst 0, 1) := by decide +kernel
theorem dX12_behindTest_67 : decode cX12_behindTest 67 = .ok (.invokevirtual 306, 3) := by decide +kernel
theorem dX12_behindTest_70 : decode cX12_behindTest 70 = .ok (.aload_n 0, 1) := by decide +kernel
theorem dX12_behindTest_71 : decode cX12_behindTest 71 = .ok (.invokevirtual 264, 3) := by decide +kernel
theorem dX12_behindTest_74 : decode cX12_behindTest 74 = .ok (.iconst 0, 1) := by decide +kernel
theorem dX12_behindTest_75 : decode cX12_behindTest 75 = .ok (.ireturn, 1) := by decide +kernel
theorem dX12_behindTest_76 : decode cX12_behindTest 76 = .ok (.aload_n 0, 1) := by decide +kernel
theorem dX12_behindTest_77 : decode cX12_behindTest 77 = .ok (.invokevirtual 369, 3) := by decide +kernel
theorem dX12_behindTest_80 : decode cX12_behindTest 80 = .ok (.iconst (-1), 1) := by decide +kernel
theorem dX12_behindTest_81 : decode cX12_behindTest 81 = .ok (.if_icmp .ne 5, 3) := by decide +kernel
theorem dX12_behindTest_84 : decode cX12_behindTest 84 = .ok (.iconst 4, 1) := by decide +kernel
theorem dX12_behindTest_85 : decode cX12_behindTest 85 = .ok (.ireturn, 1) := by decide +kernel
theorem dX12_behindTest_86 : decode cX12_behindTest 86 = .ok (.aload_n 0, 1) := by decide +kernel
theorem dX12_behindTest_87 : decode cX12_behindTest 87 = .ok (.aload_n 0, 1) := by decide +kernel
theorem dX12_behindTest_88 : decode cX12_behindTest 88 = .ok (.bipush 41, 2) := by decide +kernel
theorem dX12_behindTest_90 : decode cX12_behindTest 90 = .ok (.invokevirtual 331, 3) := by decide +kernel
theorem dX12_behindTest_93 : decode cX12_behindTest 93 = .ok (.invokevirtual 293, 3) := by decide +kernel
theorem dX12_behindTest_96 : decode cX12_behindTest 96 = .ok (.aload_n 0, 1) := by decide +kernel
theorem dX12_behindTest_97 : decode cX12_behindTest 97 = .ok (.getfield 260, 3) := by decide +kernel
theorem dX12_behindTest_100 : decode cX12_behindTest 100 = .ok (.ifCond .ne 28, 3) := by decide +kernel
theorem dX12_behindTest_103 : decode cX12_behindTest 103 = .ok (.aload_n 0, 1) := by decide +kernel
theorem dX12_behindTest_104 : decode cX12_behindTest 104 = .ok (.iconst 1, 1) := by decide +kernel
theorem dX12_behindTest_105 : decode cX12_behindTest 105 = .ok (.invokevirtual 366, 3) := by decide +kernel
theorem dX12_behindTest_108 : decode cX12_behindTest 108 = .ok (.aload_n 0, 1) := by decide +kernel
theorem dX12_behindTest_109 : decode cX12_behindTest 109 = .ok (.dup, 1) := by decide +kernel
theorem dX12_behindTest_110 : decode cX12_behindTest 110 = .ok (.getfield 300, 3) := by decide +kernel
theorem dX12_behindTest_113 : decode cX12_behindTest 113 = .ok (.iconst 1, 1) := by decide +kernel
theorem dX12_behindTest_114 : decode cX12_behindTest 114 = .ok (.isub, 1) := by decide +kernel
theorem dX12_behindTest_115 : decode cX12_behindTest 115 = .ok (.putfield 300, 3) := by decide +kernel
theorem dX12_behindTest_118 : decode cX12_behindTest 118 = .ok (.aload_n 0, 1) := by decide +kernel
theorem dX12_behindTest_119 : decode cX12_behindTest 119 = .ok (.dup, 1) := by decide +kernel
theorem dX12_behindTest_120 : decode cX12_behindTest 120 = .ok (.getfield 322, 3) := by decide +kernel
theorem dX12_behindTest_123 : decode cX12_behindTest 123 = .ok (.iconst 1, 1) := by decide +kernel
theorem dX12_behindTest_124 : decode cX12_behindTest 124 = .ok (.isub, 1) := by decide +kernel
theorem dX12_behindTest_125 : decode cX12_behindTest 125 = .ok (.putfield 322, 3) := by decide +kernel
theorem dX12_behindTest_128 : decode cX12_behindTest 128 = .ok (.iconst 2, 1) := by decide +kernel
theorem dX12_behindTest_129 : decode cX12_behindTest 129 = .ok (.ireturn, 1) := by decide +kernel
theorem dX12_readExpression_0 : decode cX12_readExpression 0 = .ok (.aload_n 0, 1) := by decide +kernel
theorem dX12_readExpression_1 : decode cX12_readExpression 1 = .ok (.iconst 0, 1) := by decide +kernel
theorem dX12_readExpression_2 : decode cX12_readExpression 2 = .ok (.putfield 300, 3) := by decide +kernel
theorem dX12_readExpression_5 : decode cX12_readExpression 5 = .ok (.aload_n 0, 1) := by decide +kernel
theorem dX12_readExpression_6 : decode cX12_readExpression 6 = .ok (.iconst 0, 1) := by decide +kernel
theorem dX12_readExpression_7 : decode cX12_readExpression 7 = .ok (.putfield 322, 3) := by decide +kernel
theorem dX12_readExpression_10 : decode cX12_readExpression 10 = .ok (.iload_n 1, 1) := by decide +kernel
theorem dX12_readExpression_11 : decode cX12_readExpression 11 = .ok (.ifCond .eq 7, 3) := by decide +kernel
theorem dX12_readExpression_14 : decode cX12_readExpression 14 = .ok (.iconst 0, 1) := by decide +kernel
theorem dX12_readExpression_15 : decode cX12_readExpression 15 = .ok (.goto 4, 3) := by decide +kernel
theorem dX12_readExpression_18 : decode cX12_readExpression 18 = .ok (.iconst 1, 1) := by decide +kernel
theorem dX12_readExpression_19 : decode cX12_readExpression 19 = .ok (.istore_n 2, 1) := by decide +kernel
theorem dX12_readExpression_20 : decode cX12_readExpression 20 = .ok (.aload_n 0, 1) := by decide +kernel
theorem dX12_readExpression_21 : decode cX12_readExpression 21 = .ok (.getfield 260, 3) := by decide +kernel
theorem dX12_readExpression_24 : decode cX12_readExpression 24 = .ok (.ifCond .ne 52, 3) := by decide +kernel
theorem dX12_readExpression_27 : decode cX12_readExpression 27 = .ok (.iload_n 2, 1) := by decide +kernel
theorem dX12_readExpression_28 : decode cX12_readExpression 28 = .ok (.iconst 4, 1) := by decide +kernel
theorem dX12_readExpression_29 : decode cX12_readExpression 29 = .ok (.if_icmp .eq 47, 3) := by decide +kernel
theorem dX12_readExpression_32 : decode cX12_readExpression 32 = .ok (.iload_n 2, 1) := by decide +kernel
theorem dX12_readExpression_33 : decode cX12_readExpression 33 = .ok (.ifCond .ne 10, 3) := by decide +kernel
theorem dX12_readExpression_36 : decode cX12_readExpression 36 = .ok (.aload_n 0, 1) := by decide +kernel
theorem dX12_readExpression_37 : decode cX12_readExpression 37 = .ok (.invokevirtual 380, 3) := by decide +kernel
theorem dX12_readExpression_40 : decode cX12_readExpression 40 = .ok (.goto 32, 3) := by decide +kernel
theorem dX12_readExpression_43 : decode cX12_readExpression 43 = .ok (.iload_n 2, 1) := by decide +kernel
theorem dX12_readExpression_44 : decode cX12_readExpression 44 = .ok (.iconst 1, 1) := by decide +kernel
theorem dX12_readExpression_45 : decode cX12_readExpression 45 = .ok (.if_icmp .ne 10, 3) := by decide +kernel
theorem dX12_readExpression_48 : decode cX12_readExpression 48 = .ok (.aload_n 0, 1) := by decide +kernel
theorem dX12_readExpression_49 : decode cX12_readExpression 49 = .ok (.invokevirtual 363, 3) := by decide +kernel
theorem dX12_readExpression_52 : decode cX12_readExpression 52 = .ok (.goto 20, 3) := by decide +kernel
theorem dX12_readExpression_55 : decode cX12_readExpression 55 = .ok (.iload_n 2, 1) := by decide +kernel
theorem dX12_readExpression_56 : decode cX12_readExpression 56 = .ok (.iconst 3, 1) := by decide +kernel
theorem dX12_readExpression_57 : decode cX12_readExpression 57 = .ok (.if_icmp .ne 11, 3) := by decide +kernel
theorem dX12_readExpression_60 : decode cX12_readExpression 60 = .ok (.aload_n 0, 1) := by decide +kernel
theorem dX12_readExpression_61 : decode cX12_readExpression 61 = .ok (.iload_n 1, 1) := by decide +kernel
theorem dX12_readExpression_62 : decode cX12_readExpression 62 = .ok (.invokevirtual 383, 3) := by decide +kernel
theorem dX12_readExpression_65 : decode cX12_readExpression 65 = .ok (.goto 7, 3) := by decide +kernel
theorem dX12_readExpression_68 : decode cX12_readExpression 68 = .ok (.aload_n 0, 1) := by decide +kernel
theorem dX12_readExpression_69 : decode cX12_readExpression 69 = .ok (.invokevirtual 387, 3) := by decide +kernel
theorem dX12_readExpression_72 : decode cX12_readExpression 72 = .ok (.istore_n 2, 1) := by decide +kernel
theorem dX12_readExpression_73 : decode cX12_readExpression 73 = .ok (.goto (-53), 3) := by decide +kernel
theorem dX12_readExpression_76 : decode cX12_readExpression 76 = .ok (.aload_n 0, 1) := by decide +kernel
theorem dX12_readExpression_77 : decode cX12_readExpression 77 = .ok (.iconst 1, 1) := by decide +kernel
theorem dX12_readExpression_78 : decode cX12_readExpression 78 = .ok (.invokevirtual 366, 3) := by decide +kernel
theorem dX12_readExpression_81 : decode cX12_readExpression 81 = .ok (.return_, 1) := by decide +kernel
theorem dX12_beginText_0 : decode cX12_beginText 0 = .ok (.aload_n 0, 1) := by decide +kernel
theorem dX12_beginText_1 : decode cX12_beginText 1 = .ok (.iload_n 1, 1) := by decide +kernel
theorem dX12_beginText_2 : decode cX12_beginText 2 = .ok (.putfield 337, 3) := by decide +kernel
theorem dX12_beginText_5 : decode cX12_beginText 5 = .ok (.aload_n 0, 1) := by decide +kernel
theorem dX12_beginText_6 : decode cX12_beginText 6 = .ok (.invokevirtual 390, 3) := by decide +kernel
theorem dX12_beginText_9 : decode cX12_beginText 9 = .ok (.aload_n 0, 1) := by decide +kernel
theorem dX12_beginText_10 : decode cX12_beginText 10 = .ok (.iconst 0, 1) := by decide +kernel
theorem dX12_beginText_11 : decode cX12_beginText 11 = .ok (.putfield 393, 3) := by decide +kernel
theorem dX12_beginText_14 : decode cX12_beginText 14 = .ok (.aload_n 0, 1) := by decide +kernel
theorem dX12_beginText_15 : decode cX12_beginText 15 = .ok (.iconst 0, 1) := by decide +kernel
theorem dX12_beginText_16 : decode cX12_beginText 16 = .ok (.putfield 297, 3) := by decide +kernel
theorem dX12_beginText_19 : decode cX12_beginText 19 = .ok (.aload_n 0, 1) := by decide +kernel
theorem dX12_beginText_20 : decode cX12_beginText 20 = .ok (.iconst 0, 1) := by decide +kernel
theorem dX12_beginText_21 : decode cX12_beginText 21 = .ok (.putfield 328, 3) := by decide +kernel
theorem dX12_beginText_24 : decode cX12_beginText 24 = .ok (.return_, 1) := by decide +kernel
theorem dX12_endText_0 : decode cX12_endText 0 = .ok (.aload_n 0, 1) := by decide +kernel
theorem dX12_endText_1 : decode cX12_endText 1 = .ok (.getfield 260, 3) := by decide +kernel
theorem dX12_endText_4 : decode cX12_endText 4 = .ok (.ifCond .ne 15, 3) := by decide +kernel
theorem dX12_endText_7 : decode cX12_endText 7 = .ok (.aload_n 0, 1) := by decide +kernel
theorem dX12_endText_8 : decode cX12_endText 8 = .ok (.getfield 280, 3) := by decide +kernel
theorem dX12_endText_11 : decode cX12_endText 11 = .ok (.ifCond .eq 8, 3) := by decide +kernel
theorem dX12_endText_14 : decode cX12_endText 14 = .ok (.aload_n 0, 1) := by decide +kernel
theorem dX12_endText_15 : decode cX12_endText 15 = .ok (.iconst 0, 1) := by decide +kernel
theorem dX12_endText_16 : decode cX12_endText 16 = .ok (.invokevirtual 293, 3) := by decide +kernel
theorem dX12_endText_19 : decode cX12_endText 19 = .ok (.aload_n 0, 1) := by decide +kernel
theorem dX12_endText_20 : decode cX12_endText 20 = .ok (.iconst 0, 1) := by decide +kernel
theorem dX12_endText_21 : decode cX12_endText 21 = .ok (.putfield 337, 3) := by decide +kernel
theorem dX12_endText_24 : decode cX12_endText 24 = .ok (.aload_n 0, 1) := by decide +kernel
theorem dX12_endText_25 : decode cX12_endText 25 = .ok (.iconst 0, 1) := by decide +kernel
theorem dX12_endText_26 : decode cX12_endText 26 = .ok (.putfield 248, 3) := by decide +kernel
theorem dX12_endText_29 : decode cX12_endText 29 = .ok (.return_, 1) := by decide +kernel
theorem dX12_readLaw_0 : decode cX12_readLaw 0 = .ok (.iconst (-1), 1) := by decide +kernel
theorem dX12_readLaw_1 : decode cX12_readLaw 1 = .ok (.istore_n 1, 1) := by decide +kernel
theorem dX12_readLaw_2 : decode cX12_readLaw 2 = .ok (.iconst 0, 1) := by decide +kernel
theorem dX12_readLaw_3 : decode cX12_readLaw 3 = .ok (.istore_n 2, 1) := by decide +kernel
theorem dX12_readLaw_4 : decode cX12_readLaw 4 = .ok (.iload_n 2, 1) := by decide +kernel
theorem dX12_readLaw_5 : decode cX12_readLaw 5 = .ok (.iconst 4, 1) := by decide +kernel
theorem dX12_readLaw_6 : decode cX12_readLaw 6 = .ok (.if_icmp .ge 28, 3) := by decide +kernel
theorem dX12_readLaw_9 : decode cX12_readLaw 9 = .ok (.aload_n 0, 1) := by decide +kernel
theorem dX12_readLaw_10 : decode cX12_readLaw 10 = .ok (.aload_n 0, 1) := by decide +kernel
theorem dX12_readLaw_11 : decode cX12_readLaw 11 = .ok (.getfield 96, 3) := by decide +kernel
theorem dX12_readLaw_14 : decode cX12_readLaw 14 = .ok (.iload_n 2, 1) := by decide +kernel
theorem dX12_readLaw_15 : decode cX12_readLaw 15 = .ok (.laload, 1) := by decide +kernel
theorem dX12_readLaw_16 : decode cX12_readLaw 16 = .ok (.invokevirtual 318, 3) := by decide +kernel
theorem dX12_readLaw_19 : decode cX12_readLaw 19 = .ok (.ifCond .eq 7, 3) := by decide +kernel
theorem dX12_readLaw_22 : decode cX12_readLaw 22 = .ok (.iload_n 2, 1) := by decide +kernel
theorem dX12_readLaw_23 : decode cX12_readLaw 23 = .ok (.goto 4, 3) := by decide +kernel
theorem dX12_readLaw_26 : decode cX12_readLaw 26 = .ok (.iload_n 1, 1) := by decide +kernel
theorem dX12_readLaw_27 : decode cX12_readLaw 27 = .ok (.istore_n 1, 1) := by decide +kernel
theorem dX12_readLaw_28 : decode cX12_readLaw 28 = .ok (.iinc 2 1, 3) := by decide +kernel
theorem dX12_readLaw_31 : decode cX12_readLaw 31 = .ok (.goto (-27), 3) := by decide +kernel
theorem dX12_readLaw_34 : decode cX12_readLaw 34 = .ok (.aload_n 0, 1) := by decide +kernel
theorem dX12_readLaw_35 : decode cX12_readLaw 35 = .ok (.iload_n 1, 1) := by decide +kernel
theorem dX12_readLaw_36 : decode cX12_readLaw 36 = .ok (.iconst (-1), 1) := by decide +kernel
theorem dX12_readLaw_37 : decode cX12_readLaw 37 = .ok (.if_icmp .eq 16, 3) := by decide +kernel
theorem dX12_readLaw_40 : decode cX12_readLaw 40 = .ok (.aload_n 0, 1) := by decide +kernel
theorem dX12_readLaw_41 : decode cX12_readLaw 41 = .ok (.getfield 393, 3) := by decide +kernel
theorem dX12_readLaw_44 : decode cX12_readLaw 44 = .ok (.bipush 12, 2) := by decide +kernel
theorem dX12_readLaw_46 : decode cX12_readLaw 46 = .ok (.if_icmp .ge 7, 3) := by decide +kernel
theorem dX12_readLaw_49 : decode cX12_readLaw 49 = .ok (.iconst 1, 1) := by decide +kernel
theorem dX12_readLaw_50 : decode cX12_readLaw 50 = .ok (.goto 4, 3) := by decide +kernel
theorem dX12_readLaw_53 : decode cX12_readLaw 53 = .ok (.iconst 0, 1) := by decide +kernel
theorem dX12_readLaw_54 : decode cX12_readLaw 54 = .ok (.invokevirtual 293, 3) := by decide +kernel
theorem dX12_readLaw_57 : decode cX12_readLaw 57 = .ok (.aload_n 0, 1) := by decide +kernel
theorem dX12_readLaw_58 : decode cX12_readLaw 58 = .ok (.getfield 260, 3) := by decide +kernel
theorem dX12_readLaw_61 : decode cX12_readLaw 61 = .ok (.ifCond .eq 4, 3) := by decide +kernel
theorem dX12_readLaw_64 : decode cX12_readLaw 64 = .ok (.return_, 1) := by decide +kernel
theorem dX12_readLaw_65 : decode cX12_readLaw 65 = .ok (.bipush 8, 2) := by decide +kernel
theorem dX12_readLaw_67 : decode cX12_readLaw 67 = .ok (.aload_n 0, 1) := by decide +kernel
theorem dX12_readLaw_68 : decode cX12_readLaw 68 = .ok (.getfield 393, 3) := by decide +kernel
theorem dX12_readLaw_71 : decode cX12_readLaw 71 = .ok (.imul, 1) := by decide +kernel
theorem dX12_readLaw_72 : decode cX12_readLaw 72 = .ok (.istore_n 2, 1) := by decide +kernel
theorem dX12_readLaw_73 : decode cX12_readLaw 73 = .ok (.iconst 0, 1) := by decide +kernel
theorem dX12_readLaw_74 : decode cX12_readLaw 74 = .ok (.istore_n 3, 1) := by decide +kernel
theorem dX12_readLaw_75 : decode cX12_readLaw 75 = .ok (.iload_n 3, 1) := by decide +kernel
theorem dX12_readLaw_76 : decode cX12_readLaw 76 = .ok (.bipush 8, 2) := by decide +kernel
theorem dX12_readLaw_78 : decode cX12_readLaw 78 = .ok (.if_icmp .ge 18, 3) := by decide +kernel
theorem dX12_readLaw_81 : decode cX12_readLaw 81 = .ok (.aload_n 0, 1) := by decide +kernel
theorem dX12_readLaw_82 : decode cX12_readLaw 82 = .ok (.getfield 42, 3) := by decide +kernel
theorem dX12_readLaw_85 : decode cX12_readLaw 85 = .ok (.iload_n 2, 1) := by decide +kernel
theorem dX12_readLaw_86 : decode cX12_readLaw 86 = .ok (.iload_n 3, 1) := by decide +kernel
theorem dX12_readLaw_87 : decode cX12_readLaw 87 = .ok (.iadd, 1) := by decide +kernel
theorem dX12_readLaw_88 : decode cX12_readLaw 88 = .ok (.iconst 0, 1) := by decide +kernel
theorem dX12_readLaw_89 : decode cX12_readLaw 89 = .ok (.iastore, 1) := by decide +kernel
theorem dX12_readLaw_90 : decode cX12_readLaw 90 = .ok (.iinc 3 1, 3) := by decide +kernel
theorem dX12_readLaw_93 : decode cX12_readLaw 93 = .ok (.goto (-18), 3) := by decide +kernel
theorem dX12_readLaw_96 : decode cX12_readLaw 96 = .ok (.aload_n 0, 1) := by decide +kernel
theorem dX12_readLaw_97 : decode cX12_readLaw 97 = .ok (.getfield 42, 3) := by decide +kernel
theorem dX12_readLaw_100 : decode cX12_readLaw 100 = .ok (.iload_n 2, 1) := by decide +kernel
theorem dX12_readLaw_101 : decode cX12_readLaw 101 = .ok (.iload_n 1, 1) := by decide +kernel
theorem dX12_readLaw_102 : decode cX12_readLaw 102 = .ok (.iastore, 1) := by decide +kernel
theorem dX12_readLaw_103 : decode cX12_readLaw 103 = .ok (.aload_n 0, 1) := by decide +kernel
theorem dX12_readLaw_104 : decode cX12_readLaw 104 = .ok (.dup, 1) := by decide +kernel
theorem dX12_readLaw_105 : decode cX12_readLaw 105 = .ok (.getfield 393, 3) := by decide +kernel
theorem dX12_readLaw_108 : decode cX12_readLaw 108 = .ok (.iconst 1, 1) := by decide +kernel
theorem dX12_readLaw_109 : decode cX12_readLaw 109 = .ok (.iadd, 1) := by decide +kernel
theorem dX12_readLaw_110 : decode cX12_readLaw 110 = .ok (.putfield 393, 3) := by decide +kernel
theorem dX12_readLaw_113 : decode cX12_readLaw 113 = .ok (.aload_n 0, 1) := by decide +kernel
theorem dX12_readLaw_114 : decode cX12_readLaw 114 = .ok (.getfield 42, 3) := by decide +kernel
theorem dX12_readLaw_117 : decode cX12_readLaw 117 = .ok (.iload_n 2, 1) := by decide +kernel
theorem dX12_readLaw_118 : decode cX12_readLaw 118 = .ok (.iconst 3, 1) := by decide +kernel
theorem dX12_readLaw_119 : decode cX12_readLaw 119 = .ok (.iadd, 1) := by decide +kernel
theorem dX12_readLaw_120 : decode cX12_readLaw 120 = .ok (.aload_n 0, 1) := by decide +kernel
theorem dX12_readLaw_121 : decode cX12_readLaw 121 = .ok (.getfield 297, 3) := by decide +kernel
theorem dX12_readLaw_124 : decode cX12_readLaw 124 = .ok (.iastore, 1) := by decide +kernel
theorem dX12_readLaw_125 : decode cX12_readLaw 125 = .ok (.iload_n 1, 1) := by decide +kernel
theorem dX12_readLaw_126 : decode cX12_readLaw 126 = .ok (.iconst 3, 1) := by decide +kernel
theorem dX12_readLaw_127 : decode cX12_readLaw 127 = .ok (.if_icmp .eq 8, 3) := by decide +kernel
theorem dX12_readLaw_130 : decode cX12_readLaw 130 = .ok (.aload_n 0, 1) := by decide +kernel
theorem dX12_readLaw_131 : decode cX12_readLaw 131 = .ok (.iconst 0, 1) := by decide +kernel
theorem dX12_readLaw_132 : decode cX12_readLaw 132 = .ok (.invokevirtual 396, 3) := by decide +kernel
theorem dX12_readLaw_135 : decode cX12_readLaw 135 = .ok (.aload_n 0, 1) := by decide +kernel
theorem dX12_readLaw_136 : decode cX12_readLaw 136 = .ok (.getfield 42, 3) := by decide +kernel
theorem dX12_readLaw_139 : decode cX12_readLaw 139 = .ok (.iload_n 2, 1) := by decide +kernel
theorem dX12_readLaw_140 : decode cX12_readLaw 140 = .ok (.iconst 4, 1) := by decide +kernel
theorem dX12_readLaw_141 : decode cX12_readLaw 141 = .ok (.iadd, 1) := by decide +kernel
theorem dX12_readLaw_142 : decode cX12_readLaw 142 = .ok (.aload_n 0, 1) := by decide +kernel
theorem dX12_readLaw_143 : decode cX12_readLaw 143 = .ok (.getfield 297, 3) := by decide +kernel
theorem dX12_readLaw_146 : decode cX12_readLaw 146 = .ok (.iastore, 1) := by decide +kernel
theorem dX12_readLaw_147 : decode cX12_readLaw 147 = .ok (.aload_n 0, 1) := by decide +kernel
theorem dX12_readLaw_148 : decode cX12_readLaw 148 = .ok (.getfield 42, 3) := by decide +kernel
theorem dX12_readLaw_151 : decode cX12_readLaw 151 = .ok (.iload_n 2, 1) := by decide +kernel
theorem dX12_readLaw_152 : decode cX12_readLaw 152 = .ok (.iconst 5, 1) := by decide +kernel
theorem dX12_readLaw_153 : decode cX12_readLaw 153 = .ok (.iadd, 1) := by decide +kernel
theorem dX12_readLaw_154 : decode cX12_readLaw 154 = .ok (.aload_n 0, 1) := by decide +kernel
theorem dX12_readLaw_155 : decode cX12_readLaw 155 = .ok (.getfield 297, 3) := by decide +kernel
theorem dX12_readLaw_158 : decode cX12_readLaw 158 = .ok (.iastore, 1) := by decide +kernel
theorem dX12_readLaw_159 : decode cX12_readLaw 159 = .ok (.aload_n 0, 1) := by decide +kernel
theorem dX12_readLaw_160 : decode cX12_readLaw 160 = .ok (.getfield 260, 3) := by decide +kernel
theorem dX12_readLaw_163 : decode cX12_readLaw 163 = .ok (.ifCond .ne 22, 3) := by decide +kernel
theorem dX12_readLaw_166 : decode cX12_readLaw 166 = .ok (.aload_n 0, 1) := by decide +kernel
theorem dX12_readLaw_167 : decode cX12_readLaw 167 = .ok (.ldc2_w 399, 3) := by decide +kernel
theorem dX12_readLaw_170 : decode cX12_readLaw 170 = .ok (.invokevirtual 318, 3) := by decide +kernel
theorem dX12_readLaw_173 : decode cX12_readLaw 173 = .ok (.ifCond .eq 12, 3) := by decide +kernel
theorem dX12_readLaw_176 : decode cX12_readLaw 176 = .ok (.aload_n 0, 1) := by decide +kernel
theorem dX12_readLaw_177 : decode cX12_readLaw 177 = .ok (.invokevirtual 264, 3) := by decide +kernel
theorem dX12_readLaw_180 : decode cX12_readLaw 180 = .ok (.aload_n 0, 1) := by decide +kernel
theorem dX12_readLaw_181 : decode cX12_readLaw 181 = .ok (.iconst 1, 1) := by decide +kernel
theorem dX12_readLaw_182 : decode cX12_readLaw 182 = .ok (.invokevirtual 396, 3) := by decide +kernel
theorem dX12_readLaw_185 : decode cX12_readLaw 185 = .ok (.aload_n 0, 1) := by decide +kernel
theorem dX12_readLaw_186 : decode cX12_readLaw 186 = .ok (.getfield 42, 3) := by decide +kernel
theorem dX12_readLaw_189 : decode cX12_readLaw 189 = .ok (.iload_n 2, 1) := by decide +kernel
theorem dX12_readLaw_190 : decode cX12_readLaw 190 = .ok (.bipush 6, 2) := by decide +kernel
theorem dX12_readLaw_192 : decode cX12_readLaw 192 = .ok (.iadd, 1) := by decide +kernel
theorem dX12_readLaw_193 : decode cX12_readLaw 193 = .ok (.aload_n 0, 1) := by decide +kernel
theorem dX12_readLaw_194 : decode cX12_readLaw 194 = .ok (.getfield 297, 3) := by decide +kernel
theorem dX12_readLaw_197 : decode cX12_readLaw 197 = .ok (.iastore, 1) := by decide +kernel
theorem dX12_readLaw_198 : decode cX12_readLaw 198 = .ok (.return_, 1) := by decide +kernel
theorem dX12_law_0 : decode cX12_law 0 = .ok (.aload_n 0, 1) := by decide +kernel
theorem dX12_law_1 : decode cX12_law 1 = .ok (.iconst 0, 1) := by decide +kernel
theorem dX12_law_2 : decode cX12_law 2 = .ok (.putfield 161, 3) := by decide +kernel
theorem dX12_law_5 : decode cX12_law 5 = .ok (.aload_n 0, 1) := by decide +kernel
theorem dX12_law_6 : decode cX12_law 6 = .ok (.getfield 13, 3) := by decide +kernel
theorem dX12_law_9 : decode cX12_law 9 = .ok (.iconst 3, 1) := by decide +kernel
theorem dX12_law_10 : decode cX12_law 10 = .ok (.iaload, 1) := by decide +kernel
theorem dX12_law_11 : decode cX12_law 11 = .ok (.bipush 6, 2) := by decide +kernel
theorem dX12_law_13 : decode cX12_law 13 = .ok (.if_icmp .ne 15, 3) := by decide +kernel
theorem dX12_law_16 : decode cX12_law 16 = .ok (.aload_n 0, 1) := by decide +kernel
theorem dX12_law_17 : decode cX12_law 17 = .ok (.iconst 0, 1) := by decide +kernel
theorem dX12_law_18 : decode cX12_law 18 = .ok (.putfield 248, 3) := by decide +kernel
theorem dX12_law_21 : decode cX12_law 21 = .ok (.aload_n 0, 1) := by decide +kernel
theorem dX12_law_22 : decode cX12_law 22 = .ok (.bipush (-5), 2) := by decide +kernel
theorem dX12_law_24 : decode cX12_law 24 = .ok (.invokevirtual 170, 3) := by decide +kernel
theorem dX12_law_27 : decode cX12_law 27 = .ok (.ireturn, 1) := by decide +kernel
theorem dX12_law_28 : decode cX12_law 28 = .ok (.aload_n 0, 1) := by decide +kernel
theorem dX12_law_29 : decode cX12_law 29 = .ok (.iconst 0, 1) := by decide +kernel
theorem dX12_law_30 : decode cX12_law 30 = .ok (.invokevirtual 401, 3) := by decide +kernel
theorem dX12_law_33 : decode cX12_law 33 = .ok (.aload_n 0, 1) := by decide +kernel
theorem dX12_law_34 : decode cX12_law 34 = .ok (.invokevirtual 404, 3) := by decide +kernel
theorem dX12_law_37 : decode cX12_law 37 = .ok (.aload_n 0, 1) := by decide +kernel
theorem dX12_law_38 : decode cX12_law 38 = .ok (.getfield 260, 3) := by decide +kernel
theorem dX12_law_41 : decode cX12_law 41 = .ok (.ifCond .ne 23, 3) := by decide +kernel
theorem dX12_law_44 : decode cX12_law 44 = .ok (.aload_n 0, 1) := by decide +kernel
theorem dX12_law_45 : decode cX12_law 45 = .ok (.bipush 59, 2) := by decide +kernel
theorem dX12_law_47 : decode cX12_law 47 = .ok (.invokevirtual 331, 3) := by decide +kernel
theorem dX12_law_50 : decode cX12_law 50 = .ok (.ifCond .eq 14, 3) := by decide +kernel
theorem dX12_law_53 : decode cX12_law 53 = .ok (.aload_n 0, 1) := by decide +kernel
theorem dX12_law_54 : decode cX12_law 54 = .ok (.invokevirtual 264, 3) := by decide +kernel
theorem dX12_law_57 : decode cX12_law 57 = .ok (.aload_n 0, 1) := by decide +kernel
theorem dX12_law_58 : decode cX12_law 58 = .ok (.invokevirtual 404, 3) := by decide +kernel
theorem dX12_law_61 : decode cX12_law 61 = .ok (.goto (-24), 3) := by decide +kernel
theorem dX12_law_64 : decode cX12_law 64 = .ok (.aload_n 0, 1) := by decide +kernel
theorem dX12_law_65 : decode cX12_law 65 = .ok (.invokevirtual 407, 3) := by decide +kernel
theorem dX12_law_68 : decode cX12_law 68 = .ok (.aload_n 0, 1) := by decide +kernel
theorem dX12_law_69 : decode cX12_law 69 = .ok (.getfield 260, 3) := by decide +kernel
theorem dX12_law_72 : decode cX12_law 72 = .ok (.ifCond .eq 10, 3) := by decide +kernel
theorem dX12_law_75 : decode cX12_law 75 = .ok (.aload_n 0, 1) := by decide +kernel
theorem dX12_law_76 : decode cX12_law 76 = .ok (.bipush (-6), 2) := by decide +kernel
theorem dX12_law_78 : decode cX12_law 78 = .ok (.invokevirtual 170, 3) := by decide +kernel
theorem dX12_law_81 : decode cX12_law 81 = .ok (.ireturn, 1) := by decide +kernel
theorem dX12_law_82 : decode cX12_law 82 = .ok (.bipush 50, 2) := by decide +kernel
theorem dX12_law_84 : decode cX12_law 84 = .ok (.sipush 900, 3) := by decide +kernel
theorem dX12_law_87 : decode cX12_law 87 = .ok (.aload_n 0, 1) := by decide +kernel
theorem dX12_law_88 : decode cX12_law 88 = .ok (.getfield 13, 3) := by decide +kernel
theorem dX12_law_91 : decode cX12_law 91 = .ok (.iconst 3, 1) := by decide +kernel
theorem dX12_law_92 : decode cX12_law 92 = .ok (.iaload, 1) := by decide +kernel
theorem dX12_law_93 : decode cX12_law 93 = .ok (.imul, 1) := by decide +kernel
theorem dX12_law_94 : decode cX12_law 94 = .ok (.iadd, 1) := by decide +kernel
theorem dX12_law_95 : decode cX12_law 95 = .ok (.istore_n 1, 1) := by decide +kernel
theorem dX12_law_96 : decode cX12_law 96 = .ok (.aload_n 0, 1) := by decide +kernel
theorem dX12_law_97 : decode cX12_law 97 = .ok (.getfield 13, 3) := by decide +kernel
theorem dX12_law_100 : decode cX12_law 100 = .ok (.iload_n 1, 1) := by decide +kernel
theorem dX12_law_101 : decode cX12_law 101 = .ok (.iconst 1, 1) := by decide +kernel
theorem dX12_law_102 : decode cX12_law 102 = .ok (.iadd, 1) := by decide +kernel
theorem dX12_law_103 : decode cX12_law 103 = .ok (.aload_n 0, 1) := by decide +kernel
theorem dX12_law_104 : decode cX12_law 104 = .ok (.getfield 393, 3) := by decide +kernel
theorem dX12_law_107 : decode cX12_law 107 = .ok (.iastore, 1) := by decide +kernel
theorem dX12_law_108 : decode cX12_law 108 = .ok (.iconst 0, 1) := by decide +kernel
theorem dX12_law_109 : decode cX12_law 109 = .ok (.istore_n 2, 1) := by decide +kernel
theorem dX12_law_110 : decode cX12_law 110 = .ok (.iload_n 2, 1) := by decide +kernel
theorem dX12_law_111 : decode cX12_law 111 = .ok (.bipush 8, 2) := by decide +kernel
theorem dX12_law_113 : decode cX12_law 113 = .ok (.aload_n 0, 1) := by decide +kernel
theorem dX12_law_114 : decode cX12_law 114 = .ok (.getfield 393, 3) := by decide +kernel
theorem dX12_law_117 : decode cX12_law 117 = .ok (.imul, 1) := by decide +kernel
theorem dX12_law_118 : decode cX12_law 118 = .ok (.if_icmp .ge 25, 3) := by decide +kernel
theorem dX12_law_121 : decode cX12_law 121 = .ok (.aload_n 0, 1) := by decide +kernel
theorem dX12_law_122 : decode cX12_law 122 = .ok (.getfield 13, 3) := by decide +kernel
theorem dX12_law_125 : decode cX12_law 125 = .ok (.iload_n 1, 1) := by decide +kernel
theorem dX12_law_126 : decode cX12_law 126 = .ok (.iconst 2, 1) := by decide +kernel
theorem dX12_law_127 : decode cX12_law 127 = .ok (.iadd, 1) := by decide +kernel
theorem dX12_law_128 : decode cX12_law 128 = .ok (.iload_n 2, 1) := by decide +kernel
theorem dX12_law_129 : decode cX12_law 129 = .ok (.iadd, 1) := by decide +kernel
theorem dX12_law_130 : decode cX12_law 130 = .ok (.aload_n 0, 1) := by decide +kernel
theorem dX12_law_131 : decode cX12_law 131 = .ok (.getfield 42, 3) := by decide +kernel
theorem dX12_law_134 : decode cX12_law 134 = .ok (.iload_n 2, 1) := by decide +kernel
theorem dX12_law_135 : decode cX12_law 135 = .ok (.iaload, 1) := by decide +kernel
theorem dX12_law_136 : decode cX12_law 136 = .ok (.iastore, 1) := by decide +kernel
theorem dX12_law_137 : decode cX12_law 137 = .ok (.iinc 2 1, 3) := by decide +kernel
theorem dX12_law_140 : decode cX12_law 140 = .ok (.goto (-30), 3) := by decide +kernel
theorem dX12_law_143 : decode cX12_law 143 = .ok (.iconst 0, 1) := by decide +kernel
theorem dX12_law_144 : decode cX12_law 144 = .ok (.istore_n 2, 1) := by decide +kernel
theorem dX12_law_145 : decode cX12_law 145 = .ok (.iload_n 2, 1) := by decide +kernel
theorem dX12_law_146 : decode cX12_law 146 = .ok (.aload_n 0, 1) := by decide +kernel
theorem dX12_law_147 : decode cX12_law 147 = .ok (.getfield 297, 3) := by decide +kernel
theorem dX12_law_150 : decode cX12_law 150 = .ok (.if_icmp .ge 49, 3) := by decide +kernel
theorem dX12_law_153 : decode cX12_law 153 = .ok (.aload_n 0, 1) := by decide +kernel
theorem dX12_law_154 : decode cX12_law 154 = .ok (.getfield 13, 3) := by decide +kernel
theorem dX12_law_157 : decode cX12_law 157 = .ok (.iload_n 1, 1) := by decide +kernel
theorem dX12_law_158 : decode cX12_law 158 = .ok (.bipush 98, 2) := by decide +kernel
theorem dX12_law_160 : decode cX12_law 160 = .ok (.iadd, 1) := by decide +kernel
theorem dX12_law_161 : decode cX12_law 161 = .ok (.iconst 2, 1) := by decide +kernel
theorem dX12_law_162 : decode cX12_law 162 = .ok (.iload_n 2, 1) := by decide +kernel
theorem dX12_law_163 : decode cX12_law 163 = .ok (.imul, 1) := by decide +kernel
theorem dX12_law_164 : decode cX12_law 164 = .ok (.iadd, 1) := by decide +kernel
theorem dX12_law_165 : decode cX12_law 165 = .ok (.aload_n 0, 1) := by decide +kernel
theorem dX12_law_166 : decode cX12_law 166 = .ok (.getfield 45, 3) := by decide +kernel
theorem dX12_law_169 : decode cX12_law 169 = .ok (.iload_n 2, 1) := by decide +kernel
theorem dX12_law_170 : decode cX12_law 170 = .ok (.iaload, 1) := by decide +kernel
theorem dX12_law_171 : decode cX12_law 171 = .ok (.iastore, 1) := by decide +kernel
theorem dX12_law_172 : decode cX12_law 172 = .ok (.aload_n 0, 1) := by decide +kernel
theorem dX12_law_173 : decode cX12_law 173 = .ok (.getfield 13, 3) := by decide +kernel
theorem dX12_law_176 : decode cX12_law 176 = .ok (.iload_n 1, 1) := by decide +kernel
theorem dX12_law_177 : decode cX12_law 177 = .ok (.bipush 98, 2) := by decide +kernel
theorem dX12_law_179 : decode cX12_law 179 = .ok (.iadd, 1) := by decide +kernel
theorem dX12_law_180 : decode cX12_law 180 = .ok (.iconst 2, 1) := by decide +kernel
theorem dX12_law_181 : decode cX12_law 181 = .ok (.iload_n 2, 1) := by decide +kernel
theorem dX12_law_182 : decode cX12_law 182 = .ok (.imul, 1) := by decide +kernel
theorem dX12_law_183 : decode cX12_law 183 = .ok (.iadd, 1) := by decide +kernel
theorem dX12_law_184 : decode cX12_law 184 = .ok (.iconst 1, 1) := by decide +kernel
theorem dX12_law_185 : decode cX12_law 185 = .ok (.iadd, 1) := by decide +kernel
theorem dX12_law_186 : decode cX12_law 186 = .ok (.aload_n 0, 1) := by decide +kernel
theorem dX12_law_187 : decode cX12_law 187 = .ok (.getfield 48, 3) := by decide +kernel
theorem dX12_law_190 : decode cX12_law 190 = .ok (.iload_n 2, 1) := by decide +kernel
theorem dX12_law_191 : decode cX12_law 191 = .ok (.iaload, 1) := by decide +kernel
theorem dX12_law_192 : decode cX12_law 192 = .ok (.iastore, 1) := by decide +kernel
theorem dX12_law_193 : decode cX12_law 193 = .ok (.iinc 2 1, 3) := by decide +kernel
theorem dX12_law_196 : decode cX12_law 196 = .ok (.goto (-51), 3) := by decide +kernel
theorem dX12_law_199 : decode cX12_law 199 = .ok (.aload_n 0, 1) := by decide +kernel
theorem dX12_law_200 : decode cX12_law 200 = .ok (.getfield 13, 3) := by decide +kernel
theorem dX12_law_203 : decode cX12_law 203 = .ok (.iconst 3, 1) := by decide +kernel
theorem dX12_law_204 : decode cX12_law 204 = .ok (.dup2, 1) := by decide +kernel
theorem dX12_law_205 : decode cX12_law 205 = .ok (.iaload, 1) := by decide +kernel
theorem dX12_law_206 : decode cX12_law 206 = .ok (.iconst 1, 1) := by decide +kernel
theorem dX12_law_207 : decode cX12_law 207 = .ok (.iadd, 1) := by decide +kernel
theorem dX12_law_208 : decode cX12_law 208 = .ok (.iastore, 1) := by decide +kernel
theorem dX12_law_209 : decode cX12_law 209 = .ok (.aload_n 0, 1) := by decide +kernel
theorem dX12_law_210 : decode cX12_law 210 = .ok (.aload_n 0, 1) := by decide +kernel
theorem dX12_law_211 : decode cX12_law 211 = .ok (.getfield 13, 3) := by decide +kernel
theorem dX12_law_214 : decode cX12_law 214 = .ok (.iconst 3, 1) := by decide +kernel
theorem dX12_law_215 : decode cX12_law 215 = .ok (.iaload, 1) := by decide +kernel
theorem dX12_law_216 : decode cX12_law 216 = .ok (.iconst 1, 1) := by decide +kernel
theorem dX12_law_217 : decode cX12_law 217 = .ok (.isub, 1) := by decide +kernel
theorem dX12_law_218 : decode cX12_law 218 = .ok (.invokevirtual 170, 3) := by decide +kernel
theorem dX12_law_221 : decode cX12_law 221 = .ok (.ireturn, 1) := by decide +kernel
theorem dX12_isLaw_0 : decode cX12_isLaw 0 = .ok (.iload_n 1, 1) := by decide +kernel
theorem dX12_isLaw_1 : decode cX12_isLaw 1 = .ok (.iconst (-1), 1) := by decide +kernel
theorem dX12_isLaw_2 : decode cX12_isLaw 2 = .ok (.if_icmp .eq 21, 3) := by decide +kernel
theorem dX12_isLaw_5 : decode cX12_isLaw 5 = .ok (.iload_n 1, 1) := by decide +kernel
theorem dX12_isLaw_6 : decode cX12_isLaw 6 = .ok (.i2l, 1) := by decide +kernel
theorem dX12_isLaw_7 : decode cX12_isLaw 7 = .ok (.lconst 0, 1) := by decide +kernel
theorem dX12_isLaw_8 : decode cX12_isLaw 8 = .ok (.aload_n 0, 1) := by decide +kernel
theorem dX12_isLaw_9 : decode cX12_isLaw 9 = .ok (.getfield 13, 3) := by decide +kernel
theorem dX12_isLaw_12 : decode cX12_isLaw 12 = .ok (.iconst 3, 1) := by decide +kernel
theorem dX12_isLaw_13 : decode cX12_isLaw 13 = .ok (.iaload, 1) := by decide +kernel
theorem dX12_isLaw_14 : decode cX12_isLaw 14 = .ok (.i2l, 1) := by decide +kernel
theorem dX12_isLaw_15 : decode cX12_isLaw 15 = .ok (.lconst 1, 1) := by decide +kernel
theorem dX12_isLaw_16 : decode cX12_isLaw 16 = .ok (.lsub, 1) := by decide +kernel
theorem dX12_isLaw_17 : decode cX12_isLaw 17 = .ok (.invokestatic 181, 3) := by decide +kernel
theorem dX12_isLaw_20 : decode cX12_isLaw 20 = .ok (.ifCond .eq 7, 3) := by decide +kernel
theorem dX12_isLaw_23 : decode cX12_isLaw 23 = .ok (.iconst 1, 1) := by decide +kernel
theorem dX12_isLaw_24 : decode cX12_isLaw 24 = .ok (.goto 4, 3) := by decide +kernel
theorem dX12_isLaw_27 : decode cX12_isLaw 27 = .ok (.iconst 0, 1) := by decide +kernel
theorem dX12_isLaw_28 : decode cX12_isLaw 28 = .ok (.ireturn, 1) := by decide +kernel
theorem dX12_force_0 : decode cX12_force 0 = .ok (.aload_n 0, 1) := by decide +kernel
theorem dX12_force_1 : decode cX12_force 1 = .ok (.iconst 0, 1) := by decide +kernel
theorem dX12_force_2 : decode cX12_force 2 = .ok (.putfield 161, 3) := by decide +kernel
theorem dX12_force_5 : decode cX12_force 5 = .ok (.aload_n 0, 1) := by decide +kernel
theorem dX12_force_6 : decode cX12_force 6 = .ok (.iload_n 1, 1) := by decide +kernel
theorem dX12_force_7 : decode cX12_force 7 = .ok (.invokevirtual 410, 3) := by decide +kernel
theorem dX12_force_10 : decode cX12_force 10 = .ok (.ifCond .eq 12, 3) := by decide +kernel
theorem dX12_force_13 : decode cX12_force 13 = .ok (.aload_n 0, 1) := by decide +kernel
theorem dX12_force_14 : decode cX12_force 14 = .ok (.iconst 4, 1) := by decide +kernel
theorem dX12_force_15 : decode cX12_force 15 = .ok (.iload_n 1, 1) := by decide +kernel
theorem dX12_force_16 : decode cX12_force 16 = .ok (.invokevirtual 244, 3) := by decide +kernel
theorem dX12_force_19 : decode cX12_force 19 = .ok (.goto 9, 3) := by decide +kernel
theorem dX12_force_22 : decode cX12_force 22 = .ok (.aload_n 0, 1) := by decide +kernel
theorem dX12_force_23 : decode cX12_force 23 = .ok (.bipush (-2), 2) := by decide +kernel
theorem dX12_force_25 : decode cX12_force 25 = .ok (.invokevirtual 170, 3) := by decide +kernel
theorem dX12_force_28 : decode cX12_force 28 = .ok (.ireturn, 1) := by decide +kernel
theorem dX12_reckon_0 : decode cX12_reckon 0 = .ok (.iload_n 1, 1) := by decide +kernel
theorem dX12_reckon_1 : decode cX12_reckon 1 = .ok (.tableswitch 148 20 26 #[43, 48, 53, 58, 90, 122, 135], 43) := by decide +kernel
theorem dX12_reckon_44 : decode cX12_reckon 44 = .ok (.lload_n 2, 1) := by decide +kernel
theorem dX12_reckon_45 : decode cX12_reckon 45 = .ok (.lload 4, 2) := by decide +kernel
theorem dX12_reckon_47 : decode cX12_reckon 47 = .ok (.ladd, 1) := by decide +kernel
theorem dX12_reckon_48 : decode cX12_reckon 48 = .ok (.lreturn, 1) := by decide +kernel
theorem dX12_reckon_49 : decode cX12_reckon 49 = .ok (.lload_n 2, 1) := by decide +kernel
theorem dX12_reckon_50 : decode cX12_reckon 50 = .ok (.lload 4, 2) := by decide +kernel
theorem dX12_reckon_52 : decode cX12_reckon 52 = .ok (.lsub, 1) := by decide +kernel
theorem dX12_reckon_53 : decode cX12_reckon 53 = .ok (.lreturn, 1) := by decide +kernel
theorem dX12_reckon_54 : decode cX12_reckon 54 = .ok (.lload_n 2, 1) := by decide +kernel
theorem dX12_reckon_55 : decode cX12_reckon 55 = .ok (.lload 4, 2) := by decide +kernel
theorem dX12_reckon_57 : decode cX12_reckon 57 = .ok (.lmul, 1) := by decide +kernel
theorem dX12_reckon_58 : decode cX12_reckon 58 = .ok (.lreturn, 1) := by decide +kernel
theorem dX12_reckon_59 : decode cX12_reckon 59 = .ok (.aload_n 0, 1) := by decide +kernel
theorem dX12_reckon_60 : decode cX12_reckon 60 = .ok (.lload 4, 2) := by decide +kernel
theorem dX12_reckon_62 : decode cX12_reckon 62 = .ok (.lconst 0, 1) := by decide +kernel
theorem dX12_reckon_63 : decode cX12_reckon 63 = .ok (.lcmp, 1) := by decide +kernel
theorem dX12_reckon_64 : decode cX12_reckon 64 = .ok (.ifCond .ne 7, 3) := by decide +kernel
theorem dX12_reckon_67 : decode cX12_reckon 67 = .ok (.iconst 1, 1) := by decide +kernel
theorem dX12_reckon_68 : decode cX12_reckon 68 = .ok (.goto 4, 3) := by decide +kernel
theorem dX12_reckon_71 : decode cX12_reckon 71 = .ok (.iconst 0, 1) := by decide +kernel
theorem dX12_reckon_72 : decode cX12_reckon 72 = .ok (.putfield 413, 3) := by decide +kernel
theorem dX12_reckon_75 : decode cX12_reckon 75 = .ok (.aload_n 0, 1) := by decide +kernel
theorem dX12_reckon_76 : decode cX12_reckon 76 = .ok (.getfield 413, 3) := by decide +kernel
theorem dX12_reckon_79 : decode cX12_reckon 79 = .ok (.ifCond .eq 7, 3) := by decide +kernel
theorem dX12_reckon_82 : decode cX12_reckon 82 = .ok (.lconst 0, 1) := by decide +kernel
theorem dX12_reckon_83 : decode cX12_reckon 83 = .ok (.goto 7, 3) := by decide +kernel
theorem dX12_reckon_86 : decode cX12_reckon 86 = .ok (.lload_n 2, 1) := by decide +kernel
theorem dX12_reckon_87 : decode cX12_reckon 87 = .ok (.lload 4, 2) := by decide +kernel
theorem dX12_reckon_89 : decode cX12_reckon 89 = .ok (.ldiv, 1) := by decide +kernel
theorem dX12_reckon_90 : decode cX12_reckon 90 = .ok (.lreturn, 1) := by decide +kernel
theorem dX12_reckon_91 : decode cX12_reckon 91 = .ok (.aload_n 0, 1) := by decide +kernel
theorem dX12_reckon_92 : decode cX12_reckon 92 = .ok (.lload 4, 2) := by decide +kernel
theorem dX12_reckon_94 : decode cX12_reckon 94 = .ok (.lconst 0, 1) := by decide +kernel
theorem dX12_reckon_95 : decode cX12_reckon 95 = .ok (.lcmp, 1) := by decide +kernel
theorem dX12_reckon_96 : decode cX12_reckon 96 = .ok (.ifCond .ne 7, 3) := by decide +kernel
theorem dX12_reckon_99 : decode cX12_reckon 99 = .ok (.iconst 1, 1) := by decide +kernel
theorem dX12_reckon_100 : decode cX12_reckon 100 = .ok (.goto 4, 3) := by decide +kernel
theorem dX12_reckon_103 : decode cX12_reckon 103 = .ok (.iconst 0, 1) := by decide +kernel
theorem dX12_reckon_104 : decode cX12_reckon 104 = .ok (.putfield 413, 3) := by decide +kernel
theorem dX12_reckon_107 : decode cX12_reckon 107 = .ok (.aload_n 0, 1) := by decide +kernel
theorem dX12_reckon_108 : decode cX12_reckon 108 = .ok (.getfield 413, 3) := by decide +kernel
theorem dX12_reckon_111 : decode cX12_reckon 111 = .ok (.ifCond .eq 7, 3) := by decide +kernel
theorem dX12_reckon_114 : decode cX12_reckon 114 = .ok (.lconst 0, 1) := by decide +kernel
theorem dX12_reckon_115 : decode cX12_reckon 115 = .ok (.goto 7, 3) := by decide +kernel
theorem dX12_reckon_118 : decode cX12_reckon 118 = .ok (.lload_n 2, 1) := by decide +kernel
theorem dX12_reckon_119 : decode cX12_reckon 119 = .ok (.lload 4, 2) := by decide +kernel
theorem dX12_reckon_121 : decode cX12_reckon 121 = .ok (.lrem, 1) := by decide +kernel
theorem dX12_reckon_122 : decode cX12_reckon 122 = .ok (.lreturn, 1) := by decide +kernel
theorem dX12_reckon_123 : decode cX12_reckon 123 = .ok (.lload_n 2, 1) := by decide +kernel
theorem dX12_reckon_124 : decode cX12_reckon 124 = .ok (.lload 4, 2) := by decide +kernel
theorem dX12_reckon_126 : decode cX12_reckon 126 = .ok (.lcmp, 1) := by decide +kernel
theorem dX12_reckon_127 : decode cX12_reckon 127 = .ok (.ifCond .ge 7, 3) := by decide +kernel
theorem dX12_reckon_130 : decode cX12_reckon 130 = .ok (.lconst 1, 1) := by decide +kernel
theorem dX12_reckon_131 : decode cX12_reckon 131 = .ok (.goto 4, 3) := by decide +kernel
theorem dX12_reckon_134 : decode cX12_reckon 134 = .ok (.lconst 0, 1) := by decide +kernel
theorem dX12_reckon_135 : decode cX12_reckon 135 = .ok (.lreturn, 1) := by decide +kernel
theorem dX12_reckon_136 : decode cX12_reckon 136 = .ok (.lload_n 2, 1) := by decide +kernel
theorem dX12_reckon_137 : decode cX12_reckon 137 = .ok (.lload 4, 2) := by decide +kernel
theorem dX12_reckon_139 : decode cX12_reckon 139 = .ok (.lcmp, 1) := by decide +kernel
theorem dX12_reckon_140 : decode cX12_reckon 140 = .ok (.ifCond .le 7, 3) := by decide +kernel
theorem dX12_reckon_143 : decode cX12_reckon 143 = .ok (.lconst 1, 1) := by decide +kernel
theorem dX12_reckon_144 : decode cX12_reckon 144 = .ok (.goto 4, 3) := by decide +kernel
theorem dX12_reckon_147 : decode cX12_reckon 147 = .ok (.lconst 0, 1) := by decide +kernel
theorem dX12_reckon_148 : decode cX12_reckon 148 = .ok (.lreturn, 1) := by decide +kernel
theorem dX12_reckon_149 : decode cX12_reckon 149 = .ok (.lload_n 2, 1) := by decide +kernel
theorem dX12_reckon_150 : decode cX12_reckon 150 = .ok (.lload 4, 2) := by decide +kernel
theorem dX12_reckon_152 : decode cX12_reckon 152 = .ok (.lcmp, 1) := by decide +kernel
theorem dX12_reckon_153 : decode cX12_reckon 153 = .ok (.ifCond .ne 7, 3) := by decide +kernel
theorem dX12_reckon_156 : decode cX12_reckon 156 = .ok (.lconst 1, 1) := by decide +kernel
theorem dX12_reckon_157 : decode cX12_reckon 157 = .ok (.goto 4, 3) := by decide +kernel
theorem dX12_reckon_160 : decode cX12_reckon 160 = .ok (.lconst 0, 1) := by decide +kernel
theorem dX12_reckon_161 : decode cX12_reckon 161 = .ok (.lreturn, 1) := by decide +kernel
theorem dX12_reckonAll_0 : decode cX12_reckonAll 0 = .ok (.aload_n 0, 1) := by decide +kernel
theorem dX12_reckonAll_1 : decode cX12_reckonAll 1 = .ok (.iconst 0, 1) := by decide +kernel
theorem dX12_reckonAll_2 : decode cX12_reckonAll 2 = .ok (.putfield 413, 3) := by decide +kernel
theorem dX12_reckonAll_5 : decode cX12_reckonAll 5 = .ok (.iconst 0, 1) := by decide +kernel
theorem dX12_reckonAll_6 : decode cX12_reckonAll 6 = .ok (.istore_n 3, 1) := by decide +kernel
theorem dX12_reckonAll_7 : decode cX12_reckonAll 7 = .ok (.iload_n 1, 1) := by decide +kernel
theorem dX12_reckonAll_8 : decode cX12_reckonAll 8 = .ok (.istore 4, 2) := by decide +kernel
theorem dX12_reckonAll_10 : decode cX12_reckonAll 10 = .ok (.iload 4, 2) := by decide +kernel
theorem dX12_reckonAll_12 : decode cX12_reckonAll 12 = .ok (.iload_n 2, 1) := by decide +kernel
theorem dX12_reckonAll_13 : decode cX12_reckonAll 13 = .ok (.if_icmp .ge 371, 3) := by decide +kernel
theorem dX12_reckonAll_16 : decode cX12_reckonAll 16 = .ok (.aload_n 0, 1) := by decide +kernel
theorem dX12_reckonAll_17 : decode cX12_reckonAll 17 = .ok (.getfield 413, 3) := by decide +kernel
theorem dX12_reckonAll_20 : decode cX12_reckonAll 20 = .ok (.ifCond .ne 364, 3) := by decide +kernel
theorem dX12_reckonAll_23 : decode cX12_reckonAll 23 = .ok (.aload_n 0, 1) := by decide +kernel
theorem dX12_reckonAll_24 : decode cX12_reckonAll 24 = .ok (.getfield 337, 3) := by decide +kernel
theorem dX12_reckonAll_27 : decode cX12_reckonAll 27 = .ok (.ifCond .eq 13, 3) := by decide +kernel
theorem dX12_reckonAll_30 : decode cX12_reckonAll 30 = .ok (.aload_n 0, 1) := by decide +kernel
theorem dX12_reckonAll_31 : decode cX12_reckonAll 31 = .ok (.getfield 45, 3) := by decide +kernel
theorem dX12_reckonAll_34 : decode cX12_reckonAll 34 = .ok (.iload 4, 2) := by decide +kernel
theorem dX12_reckonAll_36 : decode cX12_reckonAll 36 = .ok (.iaload, 1) := by decide +kernel
theorem dX12_reckonAll_37 : decode cX12_reckonAll 37 = .ok (.goto 20, 3) := by decide +kernel
theorem dX12_reckonAll_40 : decode cX12_reckonAll 40 = .ok (.aload_n 0, 1) := by decide +kernel
theorem dX12_reckonAll_41 : decode cX12_reckonAll 41 = .ok (.getfield 13, 3) := by decide +kernel
theorem dX12_reckonAll_44 : decode cX12_reckonAll 44 = .ok (.aload_n 0, 1) := by decide +kernel
theorem dX12_reckonAll_45 : decode cX12_reckonAll 45 = .ok (.getfield 416, 3) := by decide +kernel
theorem dX12_reckonAll_48 : decode cX12_reckonAll 48 = .ok (.bipush 98, 2) := by decide +kernel
theorem dX12_reckonAll_50 : decode cX12_reckonAll 50 = .ok (.iadd, 1) := by decide +kernel
theorem dX12_reckonAll_51 : decode cX12_reckonAll 51 = .ok (.iconst 2, 1) := by decide +kernel
theorem dX12_reckonAll_52 : decode cX12_reckonAll 52 = .ok (.iload 4, 2) := by decide +kernel
theorem dX12_reckonAll_54 : decode cX12_reckonAll 54 = .ok (.imul, 1) := by decide +kernel
theorem dX12_reckonAll_55 : decode cX12_reckonAll 55 = .ok (.iadd, 1) := by decide +kernel
theorem dX12_reckonAll_56 : decode cX12_reckonAll 56 = .ok (.iaload, 1) := by decide +kernel
theorem dX12_reckonAll_57 : decode cX12_reckonAll 57 = .ok (.istore 5, 2) := by decide +kernel
theorem dX12_reckonAll_59 : decode cX12_reckonAll 59 = .ok (.aload_n 0, 1) := by decide +kernel
theorem dX12_reckonAll_60 : decode cX12_reckonAll 60 = .ok (.getfield 337, 3) := by decide +kernel
theorem dX12_reckonAll_63 : decode cX12_reckonAll 63 = .ok (.ifCond .eq 13, 3) := by decide +kernel
theorem dX12_reckonAll_66 : decode cX12_reckonAll 66 = .ok (.aload_n 0, 1) := by decide +kernel
theorem dX12_reckonAll_67 : decode cX12_reckonAll 67 = .ok (.getfield 48, 3) := by decide +kernel
theorem dX12_reckonAll_70 : decode cX12_reckonAll 70 = .ok (.iload 4, 2) := by decide +kernel
theorem dX12_reckonAll_72 : decode cX12_reckonAll 72 = .ok (.iaload, 1) := by decide +kernel
theorem dX12_reckonAll_73 : decode cX12_reckonAll 73 = .ok (.goto 22, 3) := by decide +kernel
theorem dX12_reckonAll_76 : decode cX12_reckonAll 76 = .ok (.aload_n 0, 1) := by decide +kernel
theorem dX12_reckonAll_77 : decode cX12_reckonAll 77 = .ok (.getfield 13, 3) := by decide +kernel
theorem dX12_reckonAll_80 : decode cX12_reckonAll 80 = .ok (.aload_n 0, 1) := by decide +kernel
theorem dX12_reckonAll_81 : decode cX12_reckonAll 81 = .ok (.getfield 416, 3) := by decide +kernel
theorem dX12_reckonAll_84 : decode cX12_reckonAll 84 = .ok (.bipush 98, 2) := by decide +kernel
theorem dX12_reckonAll_86 : decode cX12_reckonAll 86 = .ok (.iadd, 1) := by decide +kernel
theorem dX12_reckonAll_87 : decode cX12_reckonAll 87 = .ok (.iconst 2, 1) := by decide +kernel
theorem dX12_reckonAll_88 : decode cX12_reckonAll 88 = .ok (.iload 4, 2) := by decide +kernel
theorem dX12_reckonAll_90 : decode cX12_reckonAll 90 = .ok (.imul, 1) := by decide +kernel
theorem dX12_reckonAll_91 : decode cX12_reckonAll 91 = .ok (.iadd, 1) := by decide +kernel
theorem dX12_reckonAll_92 : decode cX12_reckonAll 92 = .ok (.iconst 1, 1) := by decide +kernel
theorem dX12_reckonAll_93 : decode cX12_reckonAll 93 = .ok (.iadd, 1) := by decide +kernel
theorem dX12_reckonAll_94 : decode cX12_reckonAll 94 = .ok (.iaload, 1) := by decide +kernel
theorem dX12_reckonAll_95 : decode cX12_reckonAll 95 = .ok (.istore 6, 2) := by decide +kernel
theorem dX12_reckonAll_97 : decode cX12_reckonAll 97 = .ok (.iinc 4 1, 3) := by decide +kernel
theorem dX12_reckonAll_100 : decode cX12_reckonAll 100 = .ok (.iload 5, 2) := by decide +kernel
theorem dX12_reckonAll_102 : decode cX12_reckonAll 102 = .ok (.bipush 20, 2) := by decide +kernel
theorem dX12_reckonAll_104 : decode cX12_reckonAll 104 = .ok (.if_icmp .ge 138, 3) := by decide +kernel
theorem dX12_reckonAll_107 : decode cX12_reckonAll 107 = .ok (.aload_n 0, 1) := by decide +kernel
theorem dX12_reckonAll_108 : decode cX12_reckonAll 108 = .ok (.getfield 105, 3) := by decide +kernel
theorem dX12_reckonAll_111 : decode cX12_reckonAll 111 = .ok (.iload_n 3, 1) := by decide +kernel
theorem dX12_reckonAll_112 : decode cX12_reckonAll 112 = .ok (.iload 5, 2) := by decide +kernel
theorem dX12_reckonAll_114 : decode cX12_reckonAll 114 = .ok (.ifCond .ne 9, 3) := by decide +kernel
theorem dX12_reckonAll_117 : decode cX12_reckonAll 117 = .ok (.iload 6, 2) := by decide +kernel
theorem dX12_reckonAll_119 : decode cX12_reckonAll 119 = .ok (.i2l, 1) := by decide +kernel
theorem dX12_reckonAll_120 : decode cX12_reckonAll 120 = .ok (.goto 115, 3) := by decide +kernel
theorem dX12_reckonAll_123 : decode cX12_reckonAll 123 = .ok (.aload_n 0, 1) := by decide +kernel
theorem dX12_reckonAll_124 : decode cX12_reckonAll 124 = .ok (.getfield 337, 3) := by decide +kernel
theorem dX12_reckonAll_127 : decode cX12_reckonAll 127 = .ok (.ifCond .ne 13, 3) := by decide +kernel
theorem dX12_reckonAll_130 : decode cX12_reckonAll 130 = .ok (.aload_n 0, 1) := by decide +kernel
theorem dX12_reckonAll_131 : decode cX12_reckonAll 131 = .ok (.getfield 99, 3) := by decide +kernel
theorem dX12_reckonAll_134 : decode cX12_reckonAll 134 = .ok (.iload 5, 2) := by decide +kernel
theorem dX12_reckonAll_136 : decode cX12_reckonAll 136 = .ok (.laload, 1) := by decide +kernel
theorem dX12_reckonAll_137 : decode cX12_reckonAll 137 = .ok (.goto 98, 3) := by decide +kernel
theorem dX12_reckonAll_140 : decode cX12_reckonAll 140 = .ok (.iload 5, 2) := by decide +kernel
theorem dX12_reckonAll_142 : decode cX12_reckonAll 142 = .ok (.iconst 5, 1) := by decide +kernel
theorem dX12_reckonAll_143 : decode cX12_reckonAll 143 = .ok (.if_icmp .ge 13, 3) := by decide +kernel
theorem dX12_reckonAll_146 : decode cX12_reckonAll 146 = .ok (.aload_n 0, 1) := by decide +kernel
theorem dX12_reckonAll_147 : decode cX12_reckonAll 147 = .ok (.getfield 102, 3) := by decide +kernel
theorem dX12_reckonAll_150 : decode cX12_reckonAll 150 = .ok (.iload 5, 2) := by decide +kernel
theorem dX12_reckonAll_152 : decode cX12_reckonAll 152 = .ok (.laload, 1) := by decide +kernel
theorem dX12_reckonAll_153 : decode cX12_reckonAll 153 = .ok (.goto 82, 3) := by decide +kernel
theorem dX12_reckonAll_156 : decode cX12_reckonAll 156 = .ok (.iload 5, 2) := by decide +kernel
theorem dX12_reckonAll_158 : decode cX12_reckonAll 158 = .ok (.bipush 7, 2) := by decide +kernel
theorem dX12_reckonAll_160 : decode cX12_reckonAll 160 = .ok (.if_icmp .ne 29, 3) := by decide +kernel
theorem dX12_reckonAll_163 : decode cX12_reckonAll 163 = .ok (.aload_n 0, 1) := by decide +kernel
theorem dX12_reckonAll_164 : decode cX12_reckonAll 164 = .ok (.iload 6, 2) := by decide +kernel
theorem dX12_reckonAll_166 : decode cX12_reckonAll 166 = .ok (.invokevirtual 228, 3) := by decide +kernel
theorem dX12_reckonAll_169 : decode cX12_reckonAll 169 = .ok (.ifCond .eq 15, 3) := by decide +kernel
theorem dX12_reckonAll_172 : decode cX12_reckonAll 172 = .ok (.aload_n 0, 1) := by decide +kernel
theorem dX12_reckonAll_173 : decode cX12_reckonAll 173 = .ok (.iload 6, 2) := by decide +kernel
theorem dX12_reckonAll_175 : decode cX12_reckonAll 175 = .ok (.invokevirtual 231, 3) := by decide +kernel
theorem dX12_reckonAll_178 : decode cX12_reckonAll 178 = .ok (.invokestatic 190, 3) := by decide +kernel
theorem dX12_reckonAll_181 : decode cX12_reckonAll 181 = .ok (.goto 4, 3) := by decide +kernel
theorem dX12_reckonAll_184 : decode cX12_reckonAll 184 = .ok (.iconst (-1), 1) := by decide +kernel
theorem dX12_reckonAll_185 : decode cX12_reckonAll 185 = .ok (.i2l, 1) := by decide +kernel
theorem dX12_reckonAll_186 : decode cX12_reckonAll 186 = .ok (.goto 49, 3) := by decide +kernel
theorem dX12_reckonAll_189 : decode cX12_reckonAll 189 = .ok (.aload_n 0, 1) := by decide +kernel
theorem dX12_reckonAll_190 : decode cX12_reckonAll 190 = .ok (.iload 6, 2) := by decide +kernel
theorem dX12_reckonAll_192 : decode cX12_reckonAll 192 = .ok (.invokevirtual 210, 3) := by decide +kernel
theorem dX12_reckonAll_195 : decode cX12_reckonAll 195 = .ok (.ifCond .ne 9, 3) := by decide +kernel
theorem dX12_reckonAll_198 : decode cX12_reckonAll 198 = .ok (.ldc2_w 287, 3) := by decide +kernel
theorem dX12_reckonAll_201 : decode cX12_reckonAll 201 = .ok (.goto 34, 3) := by decide +kernel
theorem dX12_reckonAll_204 : decode cX12_reckonAll 204 = .ok (.iload 5, 2) := by decide +kernel
theorem dX12_reckonAll_206 : decode cX12_reckonAll 206 = .ok (.iconst 5, 1) := by decide +kernel
theorem dX12_reckonAll_207 : decode cX12_reckonAll 207 = .ok (.if_icmp .ne 17, 3) := by decide +kernel
theorem dX12_reckonAll_210 : decode cX12_reckonAll 210 = .ok (.aload_n 0, 1) := by decide +kernel
theorem dX12_reckonAll_211 : decode cX12_reckonAll 211 = .ok (.getfield 13, 3) := by decide +kernel
theorem dX12_reckonAll_214 : decode cX12_reckonAll 214 = .ok (.bipush 8, 2) := by decide +kernel
theorem dX12_reckonAll_216 : decode cX12_reckonAll 216 = .ok (.iload 6, 2) := by decide +kernel
theorem dX12_reckonAll_218 : decode cX12_reckonAll 218 = .ok (.iadd, 1) := by decide +kernel
theorem dX12_reckonAll_219 : decode cX12_reckonAll 219 = .ok (.iaload, 1) := by decide +kernel
theorem dX12_reckonAll_220 : decode cX12_reckonAll 220 = .ok (.i2l, 1) := by decide +kernel
theorem dX12_reckonAll_221 : decode cX12_reckonAll 221 = .ok (.goto 14, 3) := by decide +kernel
theorem dX12_reckonAll_224 : decode cX12_reckonAll 224 = .ok (.aload_n 0, 1) := by decide +kernel
theorem dX12_reckonAll_225 : decode cX12_reckonAll 225 = .ok (.getfield 13, 3) := by decide +kernel
theorem dX12_reckonAll_228 : decode cX12_reckonAll 228 = .ok (.bipush 26, 2) := by decide +kernel
theorem dX12_reckonAll_230 : decode cX12_reckonAll 230 = .ok (.iload 6, 2) := by decide +kernel
theorem dX12_reckonAll_232 : decode cX12_reckonAll 232 = .ok (.iadd, 1) := by decide +kernel
theorem dX12_reckonAll_233 : decode cX12_reckonAll 233 = .ok (.iaload, 1) := by decide +kernel
theorem dX12_reckonAll_234 : decode cX12_reckonAll 234 = .ok (.i2l, 1) := by decide +kernel
theorem dX12_reckonAll_235 : decode cX12_reckonAll 235 = .ok (.lastore, 1) := by decide +kernel
theorem dX12_reckonAll_236 : decode cX12_reckonAll 236 = .ok (.iinc 3 1, 3) := by decide +kernel
theorem dX12_reckonAll_239 : decode cX12_reckonAll 239 = .ok (.goto 142, 3) := by decide +kernel
theorem dX12_reckonAll_242 : decode cX12_reckonAll 242 = .ok (.iload 5, 2) := by decide +kernel
theorem dX12_reckonAll_244 : decode cX12_reckonAll 244 = .ok (.bipush 28, 2) := by decide +kernel
theorem dX12_reckonAll_246 : decode cX12_reckonAll 246 = .ok (.if_icmp .ge 73, 3) := by decide +kernel
theorem dX12_reckonAll_249 : decode cX12_reckonAll 249 = .ok (.iinc 3 (-1), 3) := by decide +kernel
theorem dX12_reckonAll_252 : decode cX12_reckonAll 252 = .ok (.aload_n 0, 1) := by decide +kernel
theorem dX12_reckonAll_253 : decode cX12_reckonAll 253 = .ok (.getfield 105, 3) := by decide +kernel
theorem dX12_reckonAll_256 : decode cX12_reckonAll 256 = .ok (.iload_n 3, 1) := by decide +kernel
theorem dX12_reckonAll_257 : decode cX12_reckonAll 257 = .ok (.iconst 1, 1) := by decide +kernel
theorem dX12_reckonAll_258 : decode cX12_reckonAll 258 = .ok (.isub, 1) := by decide +kernel
theorem dX12_reckonAll_259 : decode cX12_reckonAll 259 = .ok (.aload_n 0, 1) := by decide +kernel
theorem dX12_reckonAll_260 : decode cX12_reckonAll 260 = .ok (.iload 5, 2) := by decide +kernel
theorem dX12_reckonAll_262 : decode cX12_reckonAll 262 = .ok (.aload_n 0, 1) := by decide +kernel
theorem dX12_reckonAll_263 : decode cX12_reckonAll 263 = .ok (.getfield 105, 3) := by decide +kernel
theorem dX12_reckonAll_266 : decode cX12_reckonAll 266 = .ok (.iload_n 3, 1) := by decide +kernel
theorem dX12_reckonAll_267 : decode cX12_reckonAll 267 = .ok (.iconst 1, 1) := by decide +kernel
theorem dX12_reckonAll_268 : decode cX12_reckonAll 268 = .ok (.isub, 1) := by decide +kernel
theorem dX12_reckonAll_269 : decode cX12_reckonAll 269 = .ok (.laload, 1) := by decide +kernel
theorem dX12_reckonAll_270 : decode cX12_reckonAll 270 = .ok (.aload_n 0, 1) := by decide +kernel
theorem dX12_reckonAll_271 : decode cX12_reckonAll 271 = .ok (.getfield 105, 3) := by decide +kernel
theorem dX12_reckonAll_274 : decode cX12_reckonAll 274 = .ok (.iload_n 3, 1) := by decide +kernel
theorem dX12_reckonAll_275 : decode cX12_reckonAll 275 = .ok (.laload, 1) := by decide +kernel
theorem dX12_reckonAll_276 : decode cX12_reckonAll 276 = .ok (.invokevirtual 419, 3) := by decide +kernel
theorem dX12_reckonAll_279 : decode cX12_reckonAll 279 = .ok (.lastore, 1) := by decide +kernel
theorem dX12_reckonAll_280 : decode cX12_reckonAll 280 = .ok (.aload_n 0, 1) := by decide +kernel
theorem dX12_reckonAll_281 : decode cX12_reckonAll 281 = .ok (.aload_n 0, 1) := by decide +kernel
theorem dX12_reckonAll_282 : decode cX12_reckonAll 282 = .ok (.getfield 413, 3) := by decide +kernel
theorem dX12_reckonAll_285 : decode cX12_reckonAll 285 = .ok (.ifCond .ne 23, 3) := by decide +kernel
theorem dX12_reckonAll_288 : decode cX12_reckonAll 288 = .ok (.aload_n 0, 1) := by decide +kernel
theorem dX12_reckonAll_289 : decode cX12_reckonAll 289 = .ok (.getfield 105, 3) := by decide +kernel
theorem dX12_reckonAll_292 : decode cX12_reckonAll 292 = .ok (.iload_n 3, 1) := by decide +kernel
theorem dX12_reckonAll_293 : decode cX12_reckonAll 293 = .ok (.iconst 1, 1) := by decide +kernel
theorem dX12_reckonAll_294 : decode cX12_reckonAll 294 = .ok (.isub, 1) := by decide +kernel
theorem dX12_reckonAll_295 : decode cX12_reckonAll 295 = .ok (.laload, 1) := by decide +kernel
theorem dX12_reckonAll_296 : decode cX12_reckonAll 296 = .ok (.ldc2_w 423, 3) := by decide +kernel
theorem dX12_reckonAll_299 : decode cX12_reckonAll 299 = .ok (.ldc2_w 425, 3) := by decide +kernel
theorem dX12_reckonAll_302 : decode cX12_reckonAll 302 = .ok (.invokestatic 181, 3) := by decide +kernel
theorem dX12_reckonAll_305 : decode cX12_reckonAll 305 = .ok (.ifCond .ne 7, 3) := by decide +kernel
theorem dX12_reckonAll_308 : decode cX12_reckonAll 308 = .ok (.iconst 1, 1) := by decide +kernel
theorem dX12_reckonAll_309 : decode cX12_reckonAll 309 = .ok (.goto 4, 3) := by decide +kernel
theorem dX12_reckonAll_312 : decode cX12_reckonAll 312 = .ok (.iconst 0, 1) := by decide +kernel
theorem dX12_reckonAll_313 : decode cX12_reckonAll 313 = .ok (.putfield 413, 3) := by decide +kernel
theorem dX12_reckonAll_316 : decode cX12_reckonAll 316 = .ok (.goto 65, 3) := by decide +kernel
theorem dX12_reckonAll_319 : decode cX12_reckonAll 319 = .ok (.iload 5, 2) := by decide +kernel
theorem dX12_reckonAll_321 : decode cX12_reckonAll 321 = .ok (.bipush 28, 2) := by decide +kernel
theorem dX12_reckonAll_323 : decode cX12_reckonAll 323 = .ok (.if_icmp .ne 24, 3) := by decide +kernel
theorem dX12_reckonAll_326 : decode cX12_reckonAll 326 = .ok (.aload_n 0, 1) := by decide +kernel
theorem dX12_reckonAll_327 : decode cX12_reckonAll 327 = .ok (.getfield 105, 3) := by decide +kernel
theorem dX12_reckonAll_330 : decode cX12_reckonAll 330 = .ok (.iload_n 3, 1) := by decide +kernel
theorem dX12_reckonAll_331 : decode cX12_reckonAll 331 = .ok (.iconst 1, 1) := by decide +kernel
theorem dX12_reckonAll_332 : decode cX12_reckonAll 332 = .ok (.isub, 1) := by decide +kernel
theorem dX12_reckonAll_333 : decode cX12_reckonAll 333 = .ok (.lconst 1, 1) := by decide +kernel
theorem dX12_reckonAll_334 : decode cX12_reckonAll 334 = .ok (.aload_n 0, 1) := by decide +kernel
theorem dX12_reckonAll_335 : decode cX12_reckonAll 335 = .ok (.getfield 105, 3) := by decide +kernel
theorem dX12_reckonAll_338 : decode cX12_reckonAll 338 = .ok (.iload_n 3, 1) := by decide +kernel
theorem dX12_reckonAll_339 : decode cX12_reckonAll 339 = .ok (.iconst 1, 1) := by decide +kernel
theorem dX12_reckonAll_340 : decode cX12_reckonAll 340 = .ok (.isub, 1) := by decide +kernel
theorem dX12_reckonAll_341 : decode cX12_reckonAll 341 = .ok (.laload, 1) := by decide +kernel
theorem dX12_reckonAll_342 : decode cX12_reckonAll 342 = .ok (.lsub, 1) := by decide +kernel
theorem dX12_reckonAll_343 : decode cX12_reckonAll 343 = .ok (.lastore, 1) := by decide +kernel
theorem dX12_reckonAll_344 : decode cX12_reckonAll 344 = .ok (.goto 37, 3) := by decide +kernel
theorem dX12_reckonAll_347 : decode cX12_reckonAll 347 = .ok (.aload_n 0, 1) := by decide +kernel
theorem dX12_reckonAll_348 : decode cX12_reckonAll 348 = .ok (.getfield 105, 3) := by decide +kernel
theorem dX12_reckonAll_351 : decode cX12_reckonAll 351 = .ok (.iload_n 3, 1) := by decide +kernel
theorem dX12_reckonAll_352 : decode cX12_reckonAll 352 = .ok (.iconst 1, 1) := by decide +kernel
theorem dX12_reckonAll_353 : decode cX12_reckonAll 353 = .ok (.isub, 1) := by decide +kernel
theorem dX12_reckonAll_354 : decode cX12_reckonAll 354 = .ok (.laload, 1) := by decide +kernel
theorem dX12_reckonAll_355 : decode cX12_reckonAll 355 = .ok (.iload 5, 2) := by decide +kernel
theorem dX12_reckonAll_357 : decode cX12_reckonAll 357 = .ok (.bipush 29, 2) := by decide +kernel
theorem dX12_reckonAll_359 : decode cX12_reckonAll 359 = .ok (.if_icmp .ne 7, 3) := by decide +kernel
theorem dX12_reckonAll_362 : decode cX12_reckonAll 362 = .ok (.lconst 0, 1) := by decide +kernel
theorem dX12_reckonAll_363 : decode cX12_reckonAll 363 = .ok (.goto 4, 3) := by decide +kernel
theorem dX12_reckonAll_366 : decode cX12_reckonAll 366 = .ok (.lconst 1, 1) := by decide +kernel
theorem dX12_reckonAll_367 : decode cX12_reckonAll 367 = .ok (.lcmp, 1) := by decide +kernel
theorem dX12_reckonAll_368 : decode cX12_reckonAll 368 = .ok (.ifCond .ne 10, 3) := by decide +kernel
theorem dX12_reckonAll_371 : decode cX12_reckonAll 371 = .ok (.iload 6, 2) := by decide +kernel
theorem dX12_reckonAll_373 : decode cX12_reckonAll 373 = .ok (.istore 4, 2) := by decide +kernel
theorem dX12_reckonAll_375 : decode cX12_reckonAll 375 = .ok (.goto 6, 3) := by decide +kernel
theorem dX12_reckonAll_378 : decode cX12_reckonAll 378 = .ok (.iinc 3 (-1), 3) := by decide +kernel
theorem dX12_reckonAll_381 : decode cX12_reckonAll 381 = .ok (.goto (-371), 3) := by decide +kernel
theorem dX12_reckonAll_384 : decode cX12_reckonAll 384 = .ok (.aload_n 0, 1) := by decide +kernel
theorem dX12_reckonAll_385 : decode cX12_reckonAll 385 = .ok (.iload_n 3, 1) := by decide +kernel
theorem dX12_reckonAll_386 : decode cX12_reckonAll 386 = .ok (.ifCond .le 12, 3) := by decide +kernel
theorem dX12_reckonAll_389 : decode cX12_reckonAll 389 = .ok (.aload_n 0, 1) := by decide +kernel
theorem dX12_reckonAll_390 : decode cX12_reckonAll 390 = .ok (.getfield 105, 3) := by decide +kernel
theorem dX12_reckonAll_393 : decode cX12_reckonAll 393 = .ok (.iconst 0, 1) := by decide +kernel
theorem dX12_reckonAll_394 : decode cX12_reckonAll 394 = .ok (.laload, 1) := by decide +kernel
theorem dX12_reckonAll_395 : decode cX12_reckonAll 395 = .ok (.goto 4, 3) := by decide +kernel
theorem dX12_reckonAll_398 : decode cX12_reckonAll 398 = .ok (.lconst 0, 1) := by decide +kernel
theorem dX12_reckonAll_399 : decode cX12_reckonAll 399 = .ok (.putfield 427, 3) := by decide +kernel
theorem dX12_reckonAll_402 : decode cX12_reckonAll 402 = .ok (.return_, 1) := by decide +kernel
theorem dX12_isSo_0 : decode cX12_isSo 0 = .ok (.aload_n 0, 1) := by decide +kernel
theorem dX12_isSo_1 : decode cX12_isSo 1 = .ok (.getfield 13, 3) := by decide +kernel
theorem dX12_isSo_4 : decode cX12_isSo 4 = .ok (.iload_n 1, 1) := by decide +kernel
theorem dX12_isSo_5 : decode cX12_isSo 5 = .ok (.iconst 5, 1) := by decide +kernel
theorem dX12_isSo_6 : decode cX12_isSo 6 = .ok (.iadd, 1) := by decide +kernel
theorem dX12_isSo_7 : decode cX12_isSo 7 = .ok (.iaload, 1) := by decide +kernel
theorem dX12_isSo_8 : decode cX12_isSo 8 = .ok (.aload_n 0, 1) := by decide +kernel
theorem dX12_isSo_9 : decode cX12_isSo 9 = .ok (.getfield 13, 3) := by decide +kernel
theorem dX12_isSo_12 : decode cX12_isSo 12 = .ok (.iload_n 1, 1) := by decide +kernel
theorem dX12_isSo_13 : decode cX12_isSo 13 = .ok (.bipush 6, 2) := by decide +kernel
theorem dX12_isSo_15 : decode cX12_isSo 15 = .ok (.iadd, 1) := by decide +kernel
theorem dX12_isSo_16 : decode cX12_isSo 16 = .ok (.iaload, 1) := by decide +kernel
theorem dX12_isSo_17 : decode cX12_isSo 17 = .ok (.if_icmp .ge 42, 3) := by decide +kernel
theorem dX12_isSo_20 : decode cX12_isSo 20 = .ok (.aload_n 0, 1) := by decide +kernel
theorem dX12_isSo_21 : decode cX12_isSo 21 = .ok (.aload_n 0, 1) := by decide +kernel
theorem dX12_isSo_22 : decode cX12_isSo 22 = .ok (.getfield 13, 3) := by decide +kernel
theorem dX12_isSo_25 : decode cX12_isSo 25 = .ok (.iload_n 1, 1) := by decide +kernel
theorem dX12_isSo_26 : decode cX12_isSo 26 = .ok (.iconst 5, 1) := by decide +kernel
theorem dX12_isSo_27 : decode cX12_isSo 27 = .ok (.iadd, 1) := by decide +kernel
theorem dX12_isSo_28 : decode cX12_isSo 28 = .ok (.iaload, 1) := by decide +kernel
theorem dX12_isSo_29 : decode cX12_isSo 29 = .ok (.aload_n 0, 1) := by decide +kernel
theorem dX12_isSo_30 : decode cX12_isSo 30 = .ok (.getfield 13, 3) := by decide +kernel
theorem dX12_isSo_33 : decode cX12_isSo 33 = .ok (.iload_n 1, 1) := by decide +kernel
theorem dX12_isSo_34 : decode cX12_isSo 34 = .ok (.bipush 6, 2) := by decide +kernel
theorem dX12_isSo_36 : decode cX12_isSo 36 = .ok (.iadd, 1) := by decide +kernel
theorem dX12_isSo_37 : decode cX12_isSo 37 = .ok (.iaload, 1) := by decide +kernel
theorem dX12_isSo_38 : decode cX12_isSo 38 = .ok (.invokevirtual 430, 3) := by decide +kernel
theorem dX12_isSo_41 : decode cX12_isSo 41 = .ok (.aload_n 0, 1) := by decide +kernel
theorem dX12_isSo_42 : decode cX12_isSo 42 = .ok (.getfield 413, 3) := by decide +kernel
theorem dX12_isSo_45 : decode cX12_isSo 45 = .ok (.ifCond .ne 12, 3) := by decide +kernel
theorem dX12_isSo_48 : decode cX12_isSo 48 = .ok (.aload_n 0, 1) := by decide +kernel
theorem dX12_isSo_49 : decode cX12_isSo 49 = .ok (.getfield 427, 3) := by decide +kernel
theorem dX12_isSo_52 : decode cX12_isSo 52 = .ok (.lconst 0, 1) := by decide +kernel
theorem dX12_isSo_53 : decode cX12_isSo 53 = .ok (.lcmp, 1) := by decide +kernel
theorem dX12_isSo_54 : decode cX12_isSo 54 = .ok (.ifCond .ne 5, 3) := by decide +kernel
theorem dX12_isSo_57 : decode cX12_isSo 57 = .ok (.iconst 0, 1) := by decide +kernel
theorem dX12_isSo_58 : decode cX12_isSo 58 = .ok (.ireturn, 1) := by decide +kernel
theorem dX12_isSo_59 : decode cX12_isSo 59 = .ok (.aload_n 0, 1) := by decide +kernel
theorem dX12_isSo_60 : decode cX12_isSo 60 = .ok (.getfield 13, 3) := by decide +kernel
theorem dX12_isSo_63 : decode cX12_isSo 63 = .ok (.iload_n 1, 1) := by decide +kernel
theorem dX12_isSo_64 : decode cX12_isSo 64 = .ok (.iaload, 1) := by decide +kernel
theorem dX12_isSo_65 : decode cX12_isSo 65 = .ok (.iconst 3, 1) := by decide +kernel
theorem dX12_isSo_66 : decode cX12_isSo 66 = .ok (.if_icmp .eq 44, 3) := by decide +kernel
theorem dX12_isSo_69 : decode cX12_isSo 69 = .ok (.aload_n 0, 1) := by decide +kernel
theorem dX12_isSo_70 : decode cX12_isSo 70 = .ok (.aload_n 0, 1) := by decide +kernel
theorem dX12_isSo_71 : decode cX12_isSo 71 = .ok (.getfield 13, 3) := by decide +kernel
theorem dX12_isSo_74 : decode cX12_isSo 74 = .ok (.iload_n 1, 1) := by decide +kernel
theorem dX12_isSo_75 : decode cX12_isSo 75 = .ok (.iconst 3, 1) := by decide +kernel
theorem dX12_isSo_76 : decode cX12_isSo 76 = .ok (.iadd, 1) := by decide +kernel
theorem dX12_isSo_77 : decode cX12_isSo 77 = .ok (.iaload, 1) := by decide +kernel
theorem dX12_isSo_78 : decode cX12_isSo 78 = .ok (.aload_n 0, 1) := by decide +kernel
theorem dX12_isSo_79 : decode cX12_isSo 79 = .ok (.getfield 13, 3) := by decide +kernel
theorem dX12_isSo_82 : decode cX12_isSo 82 = .ok (.iload_n 1, 1) := by decide +kernel
theorem dX12_isSo_83 : decode cX12_isSo 83 = .ok (.iconst 4, 1) := by decide +kernel
theorem dX12_isSo_84 : decode cX12_isSo 84 = .ok (.iadd, 1) := by decide +kernel
theorem dX12_isSo_85 : decode cX12_isSo 85 = .ok (.iaload, 1) := by decide +kernel
theorem dX12_isSo_86 : decode cX12_isSo 86 = .ok (.invokevirtual 430, 3) := by decide +kernel
theorem dX12_isSo_89 : decode cX12_isSo 89 = .ok (.aload_n 0, 1) := by decide +kernel
theorem dX12_isSo_90 : decode cX12_isSo 90 = .ok (.aload_n 0, 1) := by decide +kernel
theorem dX12_isSo_91 : decode cX12_isSo 91 = .ok (.getfield 427, 3) := by decide +kernel
theorem dX12_isSo_94 : decode cX12_isSo 94 = .ok (.putfield 433, 3) := by decide +kernel
theorem dX12_isSo_97 : decode cX12_isSo 97 = .ok (.aload_n 0, 1) := by decide +kernel
theorem dX12_isSo_98 : decode cX12_isSo 98 = .ok (.getfield 413, 3) := by decide +kernel
theorem dX12_isSo_101 : decode cX12_isSo 101 = .ok (.ifCond .ne 7, 3) := by decide +kernel
theorem dX12_isSo_104 : decode cX12_isSo 104 = .ok (.iconst 1, 1) := by decide +kernel
theorem dX12_isSo_105 : decode cX12_isSo 105 = .ok (.goto 4, 3) := by decide +kernel
theorem dX12_isSo_108 : decode cX12_isSo 108 = .ok (.iconst 0, 1) := by decide +kernel
theorem dX12_isSo_109 : decode cX12_isSo 109 = .ok (.ireturn, 1) := by decide +kernel
theorem dX12_isSo_110 : decode cX12_isSo 110 = .ok (.iconst 1, 1) := by decide +kernel
theorem dX12_isSo_111 : decode cX12_isSo 111 = .ok (.ireturn, 1) := by decide +kernel
theorem dX12_tells_0 : decode cX12_tells 0 = .ok (.aload_n 0, 1) := by decide +kernel
theorem dX12_tells_1 : decode cX12_tells 1 = .ok (.getfield 13, 3) := by decide +kernel
theorem dX12_tells_4 : decode cX12_tells 4 = .ok (.iconst 4, 1) := by decide +kernel
theorem dX12_tells_5 : decode cX12_tells 5 = .ok (.iaload, 1) := by decide +kernel
theorem dX12_tells_6 : decode cX12_tells 6 = .ok (.iconst (-1), 1) := by decide +kernel
theorem dX12_tells_7 : decode cX12_tells 7 = .ok (.if_icmp .ne 6, 3) := by decide +kernel
theorem dX12_tells_10 : decode cX12_tells 10 = .ok (.lload 7, 2) := by decide +kernel
theorem dX12_tells_12 : decode cX12_tells 12 = .ok (.lreturn, 1) := by decide +kernel
theorem dX12_tells_13 : decode cX12_tells 13 = .ok (.aload_n 0, 1) := by decide +kernel
theorem dX12_tells_14 : decode cX12_tells 14 = .ok (.bipush 50, 2) := by decide +kernel
theorem dX12_tells_16 : decode cX12_tells 16 = .ok (.sipush 900, 3) := by decide +kernel
theorem dX12_tells_19 : decode cX12_tells 19 = .ok (.aload_n 0, 1) := by decide +kernel
theorem dX12_tells_20 : decode cX12_tells 20 = .ok (.getfield 13, 3) := by decide +kernel
theorem dX12_tells_23 : decode cX12_tells 23 = .ok (.iconst 4, 1) := by decide +kernel
theorem dX12_tells_24 : decode cX12_tells 24 = .ok (.iaload, 1) := by decide +kernel
theorem dX12_tells_25 : decode cX12_tells 25 = .ok (.imul, 1) := by decide +kernel
theorem dX12_tells_26 : decode cX12_tells 26 = .ok (.iadd, 1) := by decide +kernel
theorem dX12_tells_27 : decode cX12_tells 27 = .ok (.putfield 416, 3) := by decide +kernel
theorem dX12_tells_30 : decode cX12_tells 30 = .ok (.aload_n 0, 1) := by decide +kernel
theorem dX12_tells_31 : decode cX12_tells 31 = .ok (.getfield 99, 3) := by decide +kernel
theorem dX12_tells_34 : decode cX12_tells 34 = .ok (.iconst 1, 1) := by decide +kernel
theorem dX12_tells_35 : decode cX12_tells 35 = .ok (.iload_n 2, 1) := by decide +kernel
theorem dX12_tells_36 : decode cX12_tells 36 = .ok (.i2l, 1) := by decide +kernel
theorem dX12_tells_37 : decode cX12_tells 37 = .ok (.lastore, 1) := by decide +kernel
theorem dX12_tells_38 : decode cX12_tells 38 = .ok (.aload_n 0, 1) := by decide +kernel
theorem dX12_tells_39 : decode cX12_tells 39 = .ok (.getfield 99, 3) := by decide +kernel
theorem dX12_tells_42 : decode cX12_tells 42 = .ok (.iconst 2, 1) := by decide +kernel
theorem dX12_tells_43 : decode cX12_tells 43 = .ok (.iload_n 3, 1) := by decide +kernel
theorem dX12_tells_44 : decode cX12_tells 44 = .ok (.i2l, 1) := by decide +kernel
theorem dX12_tells_45 : decode cX12_tells 45 = .ok (.lastore, 1) := by decide +kernel
theorem dX12_tells_46 : decode cX12_tells 46 = .ok (.aload_n 0, 1) := by decide +kernel
theorem dX12_tells_47 : decode cX12_tells 47 = .ok (.getfield 99, 3) := by decide +kernel
theorem dX12_tells_50 : decode cX12_tells 50 = .ok (.iconst 3, 1) := by decide +kernel
theorem dX12_tells_51 : decode cX12_tells 51 = .ok (.iload 4, 2) := by decide +kernel
theorem dX12_tells_53 : decode cX12_tells 53 = .ok (.i2l, 1) := by decide +kernel
theorem dX12_tells_54 : decode cX12_tells 54 = .ok (.lastore, 1) := by decide +kernel
theorem dX12_tells_55 : decode cX12_tells 55 = .ok (.aload_n 0, 1) := by decide +kernel
theorem dX12_tells_56 : decode cX12_tells 56 = .ok (.getfield 99, 3) := by decide +kernel
theorem dX12_tells_59 : decode cX12_tells 59 = .ok (.iconst 4, 1) := by decide +kernel
theorem dX12_tells_60 : decode cX12_tells 60 = .ok (.aload_n 0, 1) := by decide +kernel
theorem dX12_tells_61 : decode cX12_tells 61 = .ok (.getfield 13, 3) := by decide +kernel
theorem dX12_tells_64 : decode cX12_tells 64 = .ok (.bipush 20, 2) := by decide +kernel
theorem dX12_tells_66 : decode cX12_tells 66 = .ok (.iload_n 2, 1) := by decide +kernel
theorem dX12_tells_67 : decode cX12_tells 67 = .ok (.iadd, 1) := by decide +kernel
theorem dX12_tells_68 : decode cX12_tells 68 = .ok (.iaload, 1) := by decide +kernel
theorem dX12_tells_69 : decode cX12_tells 69 = .ok (.i2l, 1) := by decide +kernel
theorem dX12_tells_70 : decode cX12_tells 70 = .ok (.lastore, 1) := by decide +kernel
theorem dX12_tells_71 : decode cX12_tells 71 = .ok (.aload_n 0, 1) := by decide +kernel
theorem dX12_tells_72 : decode cX12_tells 72 = .ok (.getfield 99, 3) := by decide +kernel
theorem dX12_tells_75 : decode cX12_tells 75 = .ok (.iconst 5, 1) := by decide +kernel
theorem dX12_tells_76 : decode cX12_tells 76 = .ok (.aload_n 0, 1) := by decide +kernel
theorem dX12_tells_77 : decode cX12_tells 77 = .ok (.getfield 13, 3) := by decide +kernel
theorem dX12_tells_80 : decode cX12_tells 80 = .ok (.bipush 26, 2) := by decide +kernel
theorem dX12_tells_82 : decode cX12_tells 82 = .ok (.iload_n 2, 1) := by decide +kernel
theorem dX12_tells_83 : decode cX12_tells 83 = .ok (.iadd, 1) := by decide +kernel
theorem dX12_tells_84 : decode cX12_tells 84 = .ok (.iaload, 1) := by decide +kernel
theorem dX12_tells_85 : decode cX12_tells 85 = .ok (.i2l, 1) := by decide +kernel
theorem dX12_tells_86 : decode cX12_tells 86 = .ok (.lastore, 1) := by decide +kernel
theorem dX12_tells_87 : decode cX12_tells 87 = .ok (.aload_n 0, 1) := by decide +kernel
theorem dX12_tells_88 : decode cX12_tells 88 = .ok (.getfield 99, 3) := by decide +kernel
theorem dX12_tells_91 : decode cX12_tells 91 = .ok (.bipush 6, 2) := by decide +kernel
theorem dX12_tells_93 : decode cX12_tells 93 = .ok (.iload 5, 2) := by decide +kernel
theorem dX12_tells_95 : decode cX12_tells 95 = .ok (.i2l, 1) := by decide +kernel
theorem dX12_tells_96 : decode cX12_tells 96 = .ok (.lastore, 1) := by decide +kernel
theorem dX12_tells_97 : decode cX12_tells 97 = .ok (.aload_n 0, 1) := by decide +kernel
theorem dX12_tells_98 : decode cX12_tells 98 = .ok (.getfield 99, 3) := by decide +kernel
theorem dX12_tells_101 : decode cX12_tells 101 = .ok (.bipush 7, 2) := by decide +kernel
theorem dX12_tells_103 : decode cX12_tells 103 = .ok (.aload_n 0, 1) := by decide +kernel
theorem dX12_tells_104 : decode cX12_tells 104 = .ok (.getfield 13, 3) := by decide +kernel
theorem dX12_tells_107 : decode cX12_tells 107 = .ok (.iconst 5, 1) := by decide +kernel
theorem dX12_tells_108 : decode cX12_tells 108 = .ok (.iaload, 1) := by decide +kernel
theorem dX12_tells_109 : decode cX12_tells 109 = .ok (.iload 6, 2) := by decide +kernel
theorem dX12_tells_111 : decode cX12_tells 111 = .ok (.iadd, 1) := by decide +kernel
theorem dX12_tells_112 : decode cX12_tells 112 = .ok (.i2l, 1) := by decide +kernel
theorem dX12_tells_113 : decode cX12_tells 113 = .ok (.lastore, 1) := by decide +kernel
theorem dX12_tells_114 : decode cX12_tells 114 = .ok (.aload_n 0, 1) := by decide +kernel
theorem dX12_tells_115 : decode cX12_tells 115 = .ok (.getfield 99, 3) := by decide +kernel
theorem dX12_tells_118 : decode cX12_tells 118 = .ok (.bipush 8, 2) := by decide +kernel
theorem dX12_tells_120 : decode cX12_tells 120 = .ok (.aload_n 0, 1) := by decide +kernel
theorem dX12_tells_121 : decode cX12_tells 121 = .ok (.getfield 13, 3) := by decide +kernel
theorem dX12_tells_124 : decode cX12_tells 124 = .ok (.bipush 7, 2) := by decide +kernel
theorem dX12_tells_126 : decode cX12_tells 126 = .ok (.iaload, 1) := by decide +kernel
theorem dX12_tells_127 : decode cX12_tells 127 = .ok (.i2l, 1) := by decide +kernel
theorem dX12_tells_128 : decode cX12_tells 128 = .ok (.lastore, 1) := by decide +kernel
theorem dX12_tells_129 : decode cX12_tells 129 = .ok (.lload 7, 2) := by decide +kernel
theorem dX12_tells_131 : decode cX12_tells 131 = .ok (.lstore 9, 2) := by decide +kernel
theorem dX12_tells_133 : decode cX12_tells 133 = .ok (.iconst 0, 1) := by decide +kernel
theorem dX12_tells_134 : decode cX12_tells 134 = .ok (.istore 11, 2) := by decide +kernel
theorem dX12_tells_136 : decode cX12_tells 136 = .ok (.iload 11, 2) := by decide +kernel
theorem dX12_tells_138 : decode cX12_tells 138 = .ok (.aload_n 0, 1) := by decide +kernel
theorem dX12_tells_139 : decode cX12_tells 139 = .ok (.getfield 13, 3) := by decide +kernel
theorem dX12_tells_142 : decode cX12_tells 142 = .ok (.aload_n 0, 1) := by decide +kernel
theorem dX12_tells_143 : decode cX12_tells 143 = .ok (.getfield 416, 3) := by decide +kernel
theorem dX12_tells_146 : decode cX12_tells 146 = .ok (.iconst 1, 1) := by decide +kernel
theorem dX12_tells_147 : decode cX12_tells 147 = .ok (.iadd, 1) := by decide +kernel
theorem dX12_tells_148 : decode cX12_tells 148 = .ok (.iaload, 1) := by decide +kernel
theorem dX12_tells_149 : decode cX12_tells 149 = .ok (.if_icmp .ge 58, 3) := by decide +kernel
theorem dX12_tells_152 : decode cX12_tells 152 = .ok (.aload_n 0, 1) := by decide +kernel
theorem dX12_tells_153 : decode cX12_tells 153 = .ok (.getfield 416, 3) := by decide +kernel
theorem dX12_tells_156 : decode cX12_tells 156 = .ok (.iconst 2, 1) := by decide +kernel
theorem dX12_tells_157 : decode cX12_tells 157 = .ok (.iadd, 1) := by decide +kernel
theorem dX12_tells_158 : decode cX12_tells 158 = .ok (.bipush 8, 2) := by decide +kernel
theorem dX12_tells_160 : decode cX12_tells 160 = .ok (.iload 11, 2) := by decide +kernel
theorem dX12_tells_162 : decode cX12_tells 162 = .ok (.imul, 1) := by decide +kernel
theorem dX12_tells_163 : decode cX12_tells 163 = .ok (.iadd, 1) := by decide +kernel
theorem dX12_tells_164 : decode cX12_tells 164 = .ok (.istore 12, 2) := by decide +kernel
theorem dX12_tells_166 : decode cX12_tells 166 = .ok (.aload_n 0, 1) := by decide +kernel
theorem dX12_tells_167 : decode cX12_tells 167 = .ok (.getfield 13, 3) := by decide +kernel
theorem dX12_tells_170 : decode cX12_tells 170 = .ok (.iload 12, 2) := by decide +kernel
theorem dX12_tells_172 : decode cX12_tells 172 = .ok (.iaload, 1) := by decide +kernel
theorem dX12_tells_173 : decode cX12_tells 173 = .ok (.iload_n 1, 1) := by decide +kernel
theorem dX12_tells_174 : decode cX12_tells 174 = .ok (.if_icmp .ne 27, 3) := by decide +kernel
theorem dX12_tells_177 : decode cX12_tells 177 = .ok (.aload_n 0, 1) := by decide +kernel
theorem dX12_tells_178 : decode cX12_tells 178 = .ok (.iload 12, 2) := by decide +kernel
theorem dX12_tells_180 : decode cX12_tells 180 = .ok (.invokevirtual 436, 3) := by decide +kernel
theorem dX12_tells_183 : decode cX12_tells 183 = .ok (.ifCond .eq 18, 3) := by decide +kernel
theorem dX12_tells_186 : decode cX12_tells 186 = .ok (.iload_n 1, 1) := by decide +kernel
theorem dX12_tells_187 : decode cX12_tells 187 = .ok (.iconst 3, 1) := by decide +kernel
theorem dX12_tells_188 : decode cX12_tells 188 = .ok (.if_icmp .ne 7, 3) := by decide +kernel
theorem dX12_tells_191 : decode cX12_tells 191 = .ok (.lconst 1, 1) := by decide +kernel
theorem dX12_tells_192 : decode cX12_tells 192 = .ok (.goto 7, 3) := by decide +kernel
theorem dX12_tells_195 : decode cX12_tells 195 = .ok (.aload_n 0, 1) := by decide +kernel
theorem dX12_tells_196 : decode cX12_tells 196 = .ok (.getfield 433, 3) := by decide +kernel
theorem dX12_tells_199 : decode cX12_tells 199 = .ok (.lstore 9, 2) := by decide +kernel
theorem dX12_tells_201 : decode cX12_tells 201 = .ok (.iinc 11 1, 3) := by decide +kernel
theorem dX12_tells_204 : decode cX12_tells 204 = .ok (.goto (-68), 3) := by decide +kernel
theorem dX12_tells_207 : decode cX12_tells 207 = .ok (.lload 9, 2) := by decide +kernel
theorem dX12_tells_209 : decode cX12_tells 209 = .ok (.lreturn, 1) := by decide +kernel
theorem dX12_earnsOf_0 : decode cX12_earnsOf 0 = .ok (.aload_n 0, 1) := by decide +kernel
theorem dX12_earnsOf_1 : decode cX12_earnsOf 1 = .ok (.iconst 0, 1) := by decide +kernel
theorem dX12_earnsOf_2 : decode cX12_earnsOf 2 = .ok (.iload_n 1, 1) := by decide +kernel
theorem dX12_earnsOf_3 : decode cX12_earnsOf 3 = .ok (.iload_n 2, 1) := by decide +kernel
theorem dX12_earnsOf_4 : decode cX12_earnsOf 4 = .ok (.iload_n 3, 1) := by decide +kernel
theorem dX12_earnsOf_5 : decode cX12_earnsOf 5 = .ok (.aload_n 0, 1) := by decide +kernel
theorem dX12_earnsOf_6 : decode cX12_earnsOf 6 = .ok (.getfield 13, 3) := by decide +kernel
theorem dX12_earnsOf_9 : decode cX12_earnsOf 9 = .ok (.bipush 32, 2) := by decide +kernel
theorem dX12_earnsOf_11 : decode cX12_earnsOf 11 = .ok (.iload_n 1, 1) := by decide +kernel
theorem dX12_earnsOf_12 : decode cX12_earnsOf 12 = .ok (.iadd, 1) := by decide +kernel
theorem dX12_earnsOf_13 : decode cX12_earnsOf 13 = .ok (.iaload, 1) := by decide +kernel
theorem dX12_earnsOf_14 : decode cX12_earnsOf 14 = .ok (.iconst 0, 1) := by decide +kernel
theorem dX12_earnsOf_15 : decode cX12_earnsOf 15 = .ok (.iload_n 2, 1) := by decide +kernel
theorem dX12_earnsOf_16 : decode cX12_earnsOf 16 = .ok (.iconst 1, 1) := by decide +kernel
theorem dX12_earnsOf_17 : decode cX12_earnsOf 17 = .ok (.iadd, 1) := by decide +kernel
theorem dX12_earnsOf_18 : decode cX12_earnsOf 18 = .ok (.i2l, 1) := by decide +kernel
theorem dX12_earnsOf_19 : decode cX12_earnsOf 19 = .ok (.invokevirtual 439, 3) := by decide +kernel
theorem dX12_earnsOf_22 : decode cX12_earnsOf 22 = .ok (.iconst 0, 1) := by decide +kernel
theorem dX12_earnsOf_23 : decode cX12_earnsOf 23 = .ok (.bipush 99, 2) := by decide +kernel
theorem dX12_earnsOf_25 : decode cX12_earnsOf 25 = .ok (.invokestatic 443, 3) := by decide +kernel
theorem dX12_earnsOf_28 : decode cX12_earnsOf 28 = .ok (.ireturn, 1) := by decide +kernel
theorem dX12_daresOf_0 : decode cX12_daresOf 0 = .ok (.aload_n 0, 1) := by decide +kernel
theorem dX12_daresOf_1 : decode cX12_daresOf 1 = .ok (.iconst 1, 1) := by decide +kernel
theorem dX12_daresOf_2 : decode cX12_daresOf 2 = .ok (.iload_n 1, 1) := by decide +kernel
theorem dX12_daresOf_3 : decode cX12_daresOf 3 = .ok (.iload_n 2, 1) := by decide +kernel
theorem dX12_daresOf_4 : decode cX12_daresOf 4 = .ok (.iload_n 3, 1) := by decide +kernel
theorem dX12_daresOf_5 : decode cX12_daresOf 5 = .ok (.aload_n 0, 1) := by decide +kernel
theorem dX12_daresOf_6 : decode cX12_daresOf 6 = .ok (.getfield 13, 3) := by decide +kernel
theorem dX12_daresOf_9 : decode cX12_daresOf 9 = .ok (.bipush 32, 2) := by decide +kernel
theorem dX12_daresOf_11 : decode cX12_daresOf 11 = .ok (.iload_n 1, 1) := by decide +kernel
theorem dX12_daresOf_12 : decode cX12_daresOf 12 = .ok (.iadd, 1) := by decide +kernel
theorem dX12_daresOf_13 : decode cX12_daresOf 13 = .ok (.iaload, 1) := by decide +kernel
theorem dX12_daresOf_14 : decode cX12_daresOf 14 = .ok (.iconst 0, 1) := by decide +kernel
theorem dX12_daresOf_15 : decode cX12_daresOf 15 = .ok (.aload_n 0, 1) := by decide +kernel
theorem dX12_daresOf_16 : decode cX12_daresOf 16 = .ok (.getfield 13, 3) := by decide +kernel
theorem dX12_daresOf_19 : decode cX12_daresOf 19 = .ok (.bipush 6, 2) := by decide +kernel
theorem dX12_daresOf_21 : decode cX12_daresOf 21 = .ok (.iaload, 1) := by decide +kernel
theorem dX12_daresOf_22 : decode cX12_daresOf 22 = .ok (.i2l, 1) := by decide +kernel
theorem dX12_daresOf_23 : decode cX12_daresOf 23 = .ok (.invokevirtual 439, 3) := by decide +kernel
theorem dX12_daresOf_26 : decode cX12_daresOf 26 = .ok (.iconst 0, 1) := by decide +kernel
theorem dX12_daresOf_27 : decode cX12_daresOf 27 = .ok (.bipush 10, 2) := by decide +kernel
theorem dX12_daresOf_29 : decode cX12_daresOf 29 = .ok (.invokestatic 443, 3) := by decide +kernel
theorem dX12_daresOf_32 : decode cX12_daresOf 32 = .ok (.ireturn, 1) := by decide +kernel
theorem dX12_showsOf_0 : decode cX12_showsOf 0 = .ok (.aload_n 0, 1) := by decide +kernel
theorem dX12_showsOf_1 : decode cX12_showsOf 1 = .ok (.iconst 2, 1) := by decide +kernel
theorem dX12_showsOf_2 : decode cX12_showsOf 2 = .ok (.iload_n 1, 1) := by decide +kernel
theorem dX12_showsOf_3 : decode cX12_showsOf 3 = .ok (.iload_n 2, 1) := by decide +kernel
theorem dX12_showsOf_4 : decode cX12_showsOf 4 = .ok (.iload_n 3, 1) := by decide +kernel
theorem dX12_showsOf_5 : decode cX12_showsOf 5 = .ok (.aload_n 0, 1) := by decide +kernel
theorem dX12_showsOf_6 : decode cX12_showsOf 6 = .ok (.getfield 13, 3) := by decide +kernel
theorem dX12_showsOf_9 : decode cX12_showsOf 9 = .ok (.bipush 32, 2) := by decide +kernel
theorem dX12_showsOf_11 : decode cX12_showsOf 11 = .ok (.iload_n 1, 1) := by decide +kernel
theorem dX12_showsOf_12 : decode cX12_showsOf 12 = .ok (.iadd, 1) := by decide +kernel
theorem dX12_showsOf_13 : decode cX12_showsOf 13 = .ok (.iaload, 1) := by decide +kernel
theorem dX12_showsOf_14 : decode cX12_showsOf 14 = .ok (.iload 4, 2) := by decide +kernel
theorem dX12_showsOf_16 : decode cX12_showsOf 16 = .ok (.iload_n 2, 1) := by decide +kernel
theorem dX12_showsOf_17 : decode cX12_showsOf 17 = .ok (.i2l, 1) := by decide +kernel
theorem dX12_showsOf_18 : decode cX12_showsOf 18 = .ok (.invokevirtual 439, 3) := by decide +kernel
theorem dX12_showsOf_21 : decode cX12_showsOf 21 = .ok (.iconst 0, 1) := by decide +kernel
theorem dX12_showsOf_22 : decode cX12_showsOf 22 = .ok (.bipush 9, 2) := by decide +kernel
theorem dX12_showsOf_24 : decode cX12_showsOf 24 = .ok (.invokestatic 443, 3) := by decide +kernel
theorem dX12_showsOf_27 : decode cX12_showsOf 27 = .ok (.ireturn, 1) := by decide +kernel
theorem dX12_isBarred_0 : decode cX12_isBarred 0 = .ok (.aload_n 0, 1) := by decide +kernel
theorem dX12_isBarred_1 : decode cX12_isBarred 1 = .ok (.iconst 3, 1) := by decide +kernel
theorem dX12_isBarred_2 : decode cX12_isBarred 2 = .ok (.iload_n 1, 1) := by decide +kernel
theorem dX12_isBarred_3 : decode cX12_isBarred 3 = .ok (.aload_n 0, 1) := by decide +kernel
theorem dX12_isBarred_4 : decode cX12_isBarred 4 = .ok (.getfield 13, 3) := by decide +kernel
theorem dX12_isBarred_7 : decode cX12_isBarred 7 = .ok (.bipush 8, 2) := by decide +kernel
theorem dX12_isBarred_9 : decode cX12_isBarred 9 = .ok (.iload_n 1, 1) := by decide +kernel
theorem dX12_isBarred_10 : decode cX12_isBarred 10 = .ok (.iadd, 1) := by decide +kernel
theorem dX12_isBarred_11 : decode cX12_isBarred 11 = .ok (.iaload, 1) := by decide +kernel
theorem dX12_isBarred_12 : decode cX12_isBarred 12 = .ok (.aload_n 0, 1) := by decide +kernel
theorem dX12_isBarred_13 : decode cX12_isBarred 13 = .ok (.iload_n 1, 1) := by decide +kernel
theorem dX12_isBarred_14 : decode cX12_isBarred 14 = .ok (.invokevirtual 213, 3) := by decide +kernel
theorem dX12_isBarred_17 : decode cX12_isBarred 17 = .ok (.iload_n 2, 1) := by decide +kernel
theorem dX12_isBarred_18 : decode cX12_isBarred 18 = .ok (.iconst 0, 1) := by decide +kernel
theorem dX12_isBarred_19 : decode cX12_isBarred 19 = .ok (.lconst 0, 1) := by decide +kernel
theorem dX12_isBarred_20 : decode cX12_isBarred 20 = .ok (.invokevirtual 439, 3) := by decide +kernel
theorem dX12_isBarred_23 : decode cX12_isBarred 23 = .ok (.lconst 1, 1) := by decide +kernel
theorem dX12_isBarred_24 : decode cX12_isBarred 24 = .ok (.lcmp, 1) := by decide +kernel
theorem dX12_isBarred_25 : decode cX12_isBarred 25 = .ok (.ifCond .ne 7, 3) := by decide +kernel
theorem dX12_isBarred_28 : decode cX12_isBarred 28 = .ok (.iconst 1, 1) := by decide +kernel
theorem dX12_isBarred_29 : decode cX12_isBarred 29 = .ok (.goto 4, 3) := by decide +kernel
theorem dX12_isBarred_32 : decode cX12_isBarred 32 = .ok (.iconst 0, 1) := by decide +kernel
theorem dX12_isBarred_33 : decode cX12_isBarred 33 = .ok (.ireturn, 1) := by decide +kernel
theorem dX12_barredFrom_0 : decode cX12_barredFrom 0 = .ok (.iconst 0, 1) := by decide +kernel
theorem dX12_barredFrom_1 : decode cX12_barredFrom 1 = .ok (.istore_n 2, 1) := by decide +kernel
theorem dX12_barredFrom_2 : decode cX12_barredFrom 2 = .ok (.iconst 0, 1) := by decide +kernel
theorem dX12_barredFrom_3 : decode cX12_barredFrom 3 = .ok (.istore_n 3, 1) := by decide +kernel
theorem dX12_barredFrom_4 : decode cX12_barredFrom 4 = .ok (.iload_n 3, 1) := by decide +kernel
theorem dX12_barredFrom_5 : decode cX12_barredFrom 5 = .ok (.aload_n 0, 1) := by decide +kernel
theorem dX12_barredFrom_6 : decode cX12_barredFrom 6 = .ok (.getfield 13, 3) := by decide +kernel
theorem dX12_barredFrom_9 : decode cX12_barredFrom 9 = .ok (.iconst 0, 1) := by decide +kernel
theorem dX12_barredFrom_10 : decode cX12_barredFrom 10 = .ok (.iaload, 1) := by decide +kernel
theorem dX12_barredFrom_11 : decode cX12_barredFrom 11 = .ok (.if_icmp .ge 36, 3) := by decide +kernel
theorem dX12_barredFrom_14 : decode cX12_barredFrom 14 = .ok (.iload_n 2, 1) := by decide +kernel
theorem dX12_barredFrom_15 : decode cX12_barredFrom 15 = .ok (.aload_n 0, 1) := by decide +kernel
theorem dX12_barredFrom_16 : decode cX12_barredFrom 16 = .ok (.iload_n 3, 1) := by decide +kernel
theorem dX12_barredFrom_17 : decode cX12_barredFrom 17 = .ok (.invokevirtual 193, 3) := by decide +kernel
theorem dX12_barredFrom_20 : decode cX12_barredFrom 20 = .ok (.ifCond .eq 18, 3) := by decide +kernel
theorem dX12_barredFrom_23 : decode cX12_barredFrom 23 = .ok (.aload_n 0, 1) := by decide +kernel
theorem dX12_barredFrom_24 : decode cX12_barredFrom 24 = .ok (.iload_n 3, 1) := by decide +kernel
theorem dX12_barredFrom_25 : decode cX12_barredFrom 25 = .ok (.iload_n 1, 1) := by decide +kernel
theorem dX12_barredFrom_26 : decode cX12_barredFrom 26 = .ok (.invokevirtual 447, 3) := by decide +kernel
theorem dX12_barredFrom_29 : decode cX12_barredFrom 29 = .ok (.ifCond .eq 9, 3) := by decide +kernel
theorem dX12_barredFrom_32 : decode cX12_barredFrom 32 = .ok (.iconst 1, 1) := by decide +kernel
theorem dX12_barredFrom_33 : decode cX12_barredFrom 33 = .ok (.iload_n 3, 1) := by decide +kernel
theorem dX12_barredFrom_34 : decode cX12_barredFrom 34 = .ok (.ishl, 1) := by decide +kernel
theorem dX12_barredFrom_35 : decode cX12_barredFrom 35 = .ok (.goto 4, 3) := by decide +kernel
theorem dX12_barredFrom_38 : decode cX12_barredFrom 38 = .ok (.iconst 0, 1) := by decide +kernel
theorem dX12_barredFrom_39 : decode cX12_barredFrom 39 = .ok (.ior, 1) := by decide +kernel
theorem dX12_barredFrom_40 : decode cX12_barredFrom 40 = .ok (.istore_n 2, 1) := by decide +kernel
theorem dX12_barredFrom_41 : decode cX12_barredFrom 41 = .ok (.iinc 3 1, 3) := by decide +kernel
theorem dX12_barredFrom_44 : decode cX12_barredFrom 44 = .ok (.goto (-40), 3) := by decide +kernel
theorem dX12_barredFrom_47 : decode cX12_barredFrom 47 = .ok (.iload_n 2, 1) := by decide +kernel
theorem dX12_barredFrom_48 : decode cX12_barredFrom 48 = .ok (.ireturn, 1) := by decide +kernel
theorem dX12_signNow_0 : decode cX12_signNow 0 = .ok (.aload_n 0, 1) := by decide +kernel
theorem dX12_signNow_1 : decode cX12_signNow 1 = .ok (.iload_n 1, 1) := by decide +kernel
theorem dX12_signNow_2 : decode cX12_signNow 2 = .ok (.invokevirtual 210, 3) := by decide +kernel
theorem dX12_signNow_5 : decode cX12_signNow 5 = .ok (.ifCond .eq 11, 3) := by decide +kernel
theorem dX12_signNow_8 : decode cX12_signNow 8 = .ok (.aload_n 0, 1) := by decide +kernel
theorem dX12_signNow_9 : decode cX12_signNow 9 = .ok (.iload_n 2, 1) := by decide +kernel
theorem dX12_signNow_10 : decode cX12_signNow 10 = .ok (.invokevirtual 228, 3) := by decide +kernel
theorem dX12_signNow_13 : decode cX12_signNow 13 = .ok (.ifCond .ne 6, 3) := by decide +kernel
theorem dX12_signNow_16 : decode cX12_signNow 16 = .ok (.bipush (-2), 2) := by decide +kernel
theorem dX12_signNow_18 : decode cX12_signNow 18 = .ok (.ireturn, 1) := by decide +kernel
theorem dX12_signNow_19 : decode cX12_signNow 19 = .ok (.aload_n 0, 1) := by decide +kernel
theorem dX12_signNow_20 : decode cX12_signNow 20 = .ok (.iload_n 1, 1) := by decide +kernel
theorem dX12_signNow_21 : decode cX12_signNow 21 = .ok (.invokevirtual 193, 3) := by decide +kernel
theorem dX12_signNow_24 : decode cX12_signNow 24 = .ok (.ifCond .eq 25, 3) := by decide +kernel
theorem dX12_signNow_27 : decode cX12_signNow 27 = .ok (.aload_n 0, 1) := by decide +kernel
theorem dX12_signNow_28 : decode cX12_signNow 28 = .ok (.getfield 13, 3) := by decide +kernel
theorem dX12_signNow_31 : decode cX12_signNow 31 = .ok (.bipush 32, 2) := by decide +kernel
theorem dX12_signNow_33 : decode cX12_signNow 33 = .ok (.iload_n 1, 1) := by decide +kernel
theorem dX12_signNow_34 : decode cX12_signNow 34 = .ok (.iadd, 1) := by decide +kernel
theorem dX12_signNow_35 : decode cX12_signNow 35 = .ok (.iaload, 1) := by decide +kernel
theorem dX12_signNow_36 : decode cX12_signNow 36 = .ok (.iload_n 2, 1) := by decide +kernel
theorem dX12_signNow_37 : decode cX12_signNow 37 = .ok (.if_icmp .eq 12, 3) := by decide +kernel
theorem dX12_signNow_40 : decode cX12_signNow 40 = .ok (.aload_n 0, 1) := by decide +kernel
theorem dX12_signNow_41 : decode cX12_signNow 41 = .ok (.iload_n 1, 1) := by decide +kernel
theorem dX12_signNow_42 : decode cX12_signNow 42 = .ok (.iload_n 2, 1) := by decide +kernel
theorem dX12_signNow_43 : decode cX12_signNow 43 = .ok (.invokevirtual 447, 3) := by decide +kernel
theorem dX12_signNow_46 : decode cX12_signNow 46 = .ok (.ifCond .eq 6, 3) := by decide +kernel
theorem dX12_signNow_49 : decode cX12_signNow 49 = .ok (.bipush (-3), 2) := by decide +kernel
theorem dX12_signNow_51 : decode cX12_signNow 51 = .ok (.ireturn, 1) := by decide +kernel
theorem dX12_signNow_52 : decode cX12_signNow 52 = .ok (.aload_n 0, 1) := by decide +kernel
theorem dX12_signNow_53 : decode cX12_signNow 53 = .ok (.iconst 0, 1) := by decide +kernel
theorem dX12_signNow_54 : decode cX12_signNow 54 = .ok (.invokevirtual 450, 3) := by decide +kernel
theorem dX12_signNow_57 : decode cX12_signNow 57 = .ok (.aload_n 0, 1) := by decide +kernel
theorem dX12_signNow_58 : decode cX12_signNow 58 = .ok (.getfield 13, 3) := by decide +kernel
theorem dX12_signNow_61 : decode cX12_signNow 61 = .ok (.bipush 32, 2) := by decide +kernel
theorem dX12_signNow_63 : decode cX12_signNow 63 = .ok (.iload_n 1, 1) := by decide +kernel
theorem dX12_signNow_64 : decode cX12_signNow 64 = .ok (.iadd, 1) := by decide +kernel
theorem dX12_signNow_65 : decode cX12_signNow 65 = .ok (.iload_n 2, 1) := by decide +kernel
theorem dX12_signNow_66 : decode cX12_signNow 66 = .ok (.iastore, 1) := by decide +kernel
theorem dX12_signNow_67 : decode cX12_signNow 67 = .ok (.aload_n 0, 1) := by decide +kernel
theorem dX12_signNow_68 : decode cX12_signNow 68 = .ok (.iload_n 2, 1) := by decide +kernel
theorem dX12_signNow_69 : decode cX12_signNow 69 = .ok (.invokevirtual 231, 3) := by decide +kernel
theorem dX12_signNow_72 : decode cX12_signNow 72 = .ok (.invokestatic 190, 3) := by decide +kernel
theorem dX12_signNow_75 : decode cX12_signNow 75 = .ok (.ireturn, 1) := by decide +kernel
theorem dX12_sign_0 : decode cX12_sign 0 = .ok (.aload_n 0, 1) := by decide +kernel
theorem dX12_sign_1 : decode cX12_sign 1 = .ok (.iconst 0, 1) := by decide +kernel
theorem dX12_sign_2 : decode cX12_sign 2 = .ok (.putfield 161, 3) := by decide +kernel
theorem dX12_sign_5 : decode cX12_sign 5 = .ok (.aload_n 0, 1) := by decide +kernel
theorem dX12_sign_6 : decode cX12_sign 6 = .ok (.aload_n 0, 1) := by decide +kernel
theorem dX12_sign_7 : decode cX12_sign 7 = .ok (.iload_n 1, 1) := by decide +kernel
theorem dX12_sign_8 : decode cX12_sign 8 = .ok (.iload_n 2, 1) := by decide +kernel
theorem dX12_sign_9 : decode cX12_sign 9 = .ok (.invokevirtual 453, 3) := by decide +kernel
theorem dX12_sign_12 : decode cX12_sign 12 = .ok (.invokevirtual 170, 3) := by decide +kernel
theorem dX12_sign_15 : decode cX12_sign 15 = .ok (.ireturn, 1) := by decide +kernel
theorem dX12_dieIt_0 : decode cX12_dieIt 0 = .ok (.aload_n 0, 1) := by decide +kernel
theorem dX12_dieIt_1 : decode cX12_dieIt 1 = .ok (.getfield 13, 3) := by decide +kernel
theorem dX12_dieIt_4 : decode cX12_dieIt 4 = .ok (.bipush 8, 2) := by decide +kernel
theorem dX12_dieIt_6 : decode cX12_dieIt 6 = .ok (.iload_n 1, 1) := by decide +kernel
theorem dX12_dieIt_7 : decode cX12_dieIt 7 = .ok (.iadd, 1) := by decide +kernel
theorem dX12_dieIt_8 : decode cX12_dieIt 8 = .ok (.iload_n 2, 1) := by decide +kernel
theorem dX12_dieIt_9 : decode cX12_dieIt 9 = .ok (.bipush 9, 2) := by decide +kernel
theorem dX12_dieIt_11 : decode cX12_dieIt 11 = .ok (.if_icmp .ne 7, 3) := by decide +kernel
theorem dX12_dieIt_14 : decode cX12_dieIt 14 = .ok (.iconst (-1), 1) := by decide +kernel
theorem dX12_dieIt_15 : decode cX12_dieIt 15 = .ok (.goto 4, 3) := by decide +kernel
theorem dX12_dieIt_18 : decode cX12_dieIt 18 = .ok (.iload_n 2, 1) := by decide +kernel
theorem dX12_dieIt_19 : decode cX12_dieIt 19 = .ok (.iastore, 1) := by decide +kernel
theorem dX12_dieIt_20 : decode cX12_dieIt 20 = .ok (.aload_n 0, 1) := by decide +kernel
theorem dX12_dieIt_21 : decode cX12_dieIt 21 = .ok (.getfield 13, 3) := by decide +kernel
theorem dX12_dieIt_24 : decode cX12_dieIt 24 = .ok (.bipush 14, 2) := by decide +kernel
theorem dX12_dieIt_26 : decode cX12_dieIt 26 = .ok (.iload_n 1, 1) := by decide +kernel
theorem dX12_dieIt_27 : decode cX12_dieIt 27 = .ok (.iadd, 1) := by decide +kernel
theorem dX12_dieIt_28 : decode cX12_dieIt 28 = .ok (.dup2, 1) := by decide +kernel
theorem dX12_dieIt_29 : decode cX12_dieIt 29 = .ok (.iaload, 1) := by decide +kernel
theorem dX12_dieIt_30 : decode cX12_dieIt 30 = .ok (.iload_n 2, 1) := by decide +kernel
theorem dX12_dieIt_31 : decode cX12_dieIt 31 = .ok (.bipush 9, 2) := by decide +kernel
theorem dX12_dieIt_33 : decode cX12_dieIt 33 = .ok (.if_icmp .ne 7, 3) := by decide +kernel
theorem dX12_dieIt_36 : decode cX12_dieIt 36 = .ok (.iconst 0, 1) := by decide +kernel
theorem dX12_dieIt_37 : decode cX12_dieIt 37 = .ok (.goto 8, 3) := by decide +kernel
theorem dX12_dieIt_40 : decode cX12_dieIt 40 = .ok (.iconst 1, 1) := by decide +kernel
theorem dX12_dieIt_41 : decode cX12_dieIt 41 = .ok (.iload_n 2, 1) := by decide +kernel
theorem dX12_dieIt_42 : decode cX12_dieIt 42 = .ok (.ishl, 1) := by decide +kernel
theorem dX12_dieIt_43 : decode cX12_dieIt 43 = .ok (.iconst (-1), 1) := by decide +kernel
theorem dX12_dieIt_44 : decode cX12_dieIt 44 = .ok (.ixor, 1) := by decide +kernel
theorem dX12_dieIt_45 : decode cX12_dieIt 45 = .ok (.iand, 1) := by decide +kernel
theorem dX12_dieIt_46 : decode cX12_dieIt 46 = .ok (.iastore, 1) := by decide +kernel
theorem dX12_dieIt_47 : decode cX12_dieIt 47 = .ok (.aload_n 0, 1) := by decide +kernel
theorem dX12_dieIt_48 : decode cX12_dieIt 48 = .ok (.getfield 13, 3) := by decide +kernel
theorem dX12_dieIt_51 : decode cX12_dieIt 51 = .ok (.bipush 32, 2) := by decide +kernel
theorem dX12_dieIt_53 : decode cX12_dieIt 53 = .ok (.iload_n 1, 1) := by decide +kernel
theorem dX12_dieIt_54 : decode cX12_dieIt 54 = .ok (.iadd, 1) := by decide +kernel
theorem dX12_dieIt_55 : decode cX12_dieIt 55 = .ok (.iload_n 2, 1) := by decide +kernel
theorem dX12_dieIt_56 : decode cX12_dieIt 56 = .ok (.bipush 9, 2) := by decide +kernel
theorem dX12_dieIt_58 : decode cX12_dieIt 58 = .ok (.if_icmp .ne 7, 3) := by decide +kernel
theorem dX12_dieIt_61 : decode cX12_dieIt 61 = .ok (.iconst (-1), 1) := by decide +kernel
theorem dX12_dieIt_62 : decode cX12_dieIt 62 = .ok (.goto 12, 3) := by decide +kernel
theorem dX12_dieIt_65 : decode cX12_dieIt 65 = .ok (.aload_n 0, 1) := by decide +kernel
theorem dX12_dieIt_66 : decode cX12_dieIt 66 = .ok (.getfield 13, 3) := by decide +kernel
theorem dX12_dieIt_69 : decode cX12_dieIt 69 = .ok (.bipush 32, 2) := by decide +kernel
theorem dX12_dieIt_71 : decode cX12_dieIt 71 = .ok (.iload_n 1, 1) := by decide +kernel
theorem dX12_dieIt_72 : decode cX12_dieIt 72 = .ok (.iadd, 1) := by decide +kernel
theorem dX12_dieIt_73 : decode cX12_dieIt 73 = .ok (.iaload, 1) := by decide +kernel
theorem dX12_dieIt_74 : decode cX12_dieIt 74 = .ok (.iastore, 1) := by decide +kernel
theorem dX12_dieIt_75 : decode cX12_dieIt 75 = .ok (.return_, 1) := by decide +kernel
theorem dX12_dieNow_0 : decode cX12_dieNow 0 = .ok (.iload_n 2, 1) := by decide +kernel
theorem dX12_dieNow_1 : decode cX12_dieNow 1 = .ok (.i2l, 1) := by decide +kernel
theorem dX12_dieNow_2 : decode cX12_dieNow 2 = .ok (.lconst 0, 1) := by decide +kernel
theorem dX12_dieNow_3 : decode cX12_dieNow 3 = .ok (.ldc2_w 204, 3) := by decide +kernel
theorem dX12_dieNow_6 : decode cX12_dieNow 6 = .ok (.invokestatic 181, 3) := by decide +kernel
theorem dX12_dieNow_9 : decode cX12_dieNow 9 = .ok (.ifCond .ne 5, 3) := by decide +kernel
theorem dX12_dieNow_12 : decode cX12_dieNow 12 = .ok (.iconst (-1), 1) := by decide +kernel
theorem dX12_dieNow_13 : decode cX12_dieNow 13 = .ok (.ireturn, 1) := by decide +kernel
theorem dX12_dieNow_14 : decode cX12_dieNow 14 = .ok (.aload_n 0, 1) := by decide +kernel
theorem dX12_dieNow_15 : decode cX12_dieNow 15 = .ok (.iload_n 1, 1) := by decide +kernel
theorem dX12_dieNow_16 : decode cX12_dieNow 16 = .ok (.invokevirtual 210, 3) := by decide +kernel
theorem dX12_dieNow_19 : decode cX12_dieNow 19 = .ok (.ifCond .ne 6, 3) := by decide +kernel
theorem dX12_dieNow_22 : decode cX12_dieNow 22 = .ok (.bipush (-2), 2) := by decide +kernel
theorem dX12_dieNow_24 : decode cX12_dieNow 24 = .ok (.ireturn, 1) := by decide +kernel
theorem dX12_dieNow_25 : decode cX12_dieNow 25 = .ok (.aload_n 0, 1) := by decide +kernel
theorem dX12_dieNow_26 : decode cX12_dieNow 26 = .ok (.iload_n 1, 1) := by decide +kernel
theorem dX12_dieNow_27 : decode cX12_dieNow 27 = .ok (.invokevirtual 193, 3) := by decide +kernel
theorem dX12_dieNow_30 : decode cX12_dieNow 30 = .ok (.ifCond .eq 44, 3) := by decide +kernel
theorem dX12_dieNow_33 : decode cX12_dieNow 33 = .ok (.iload_n 2, 1) := by decide +kernel
theorem dX12_dieNow_34 : decode cX12_dieNow 34 = .ok (.bipush 9, 2) := by decide +kernel
theorem dX12_dieNow_36 : decode cX12_dieNow 36 = .ok (.if_icmp .ne 18, 3) := by decide +kernel
theorem dX12_dieNow_39 : decode cX12_dieNow 39 = .ok (.aload_n 0, 1) := by decide +kernel
theorem dX12_dieNow_40 : decode cX12_dieNow 40 = .ok (.getfield 13, 3) := by decide +kernel
theorem dX12_dieNow_43 : decode cX12_dieNow 43 = .ok (.bipush 14, 2) := by decide +kernel
theorem dX12_dieNow_45 : decode cX12_dieNow 45 = .ok (.iload_n 1, 1) := by decide +kernel
theorem dX12_dieNow_46 : decode cX12_dieNow 46 = .ok (.iadd, 1) := by decide +kernel
theorem dX12_dieNow_47 : decode cX12_dieNow 47 = .ok (.iaload, 1) := by decide +kernel
theorem dX12_dieNow_48 : decode cX12_dieNow 48 = .ok (.ifCond .ne 26, 3) := by decide +kernel
theorem dX12_dieNow_51 : decode cX12_dieNow 51 = .ok (.goto 19, 3) := by decide +kernel
theorem dX12_dieNow_54 : decode cX12_dieNow 54 = .ok (.aload_n 0, 1) := by decide +kernel
theorem dX12_dieNow_55 : decode cX12_dieNow 55 = .ok (.getfield 13, 3) := by decide +kernel
theorem dX12_dieNow_58 : decode cX12_dieNow 58 = .ok (.bipush 14, 2) := by decide +kernel
theorem dX12_dieNow_60 : decode cX12_dieNow 60 = .ok (.iload_n 1, 1) := by decide +kernel
theorem dX12_dieNow_61 : decode cX12_dieNow 61 = .ok (.iadd, 1) := by decide +kernel
theorem dX12_dieNow_62 : decode cX12_dieNow 62 = .ok (.iaload, 1) := by decide +kernel
theorem dX12_dieNow_63 : decode cX12_dieNow 63 = .ok (.iload_n 2, 1) := by decide +kernel
theorem dX12_dieNow_64 : decode cX12_dieNow 64 = .ok (.invokestatic 197, 3) := by decide +kernel
theorem dX12_dieNow_67 : decode cX12_dieNow 67 = .ok (.ifCond .eq 7, 3) := by decide +kernel
theorem dX12_dieNow_70 : decode cX12_dieNow 70 = .ok (.iconst 1, 1) := by decide +kernel
theorem dX12_dieNow_71 : decode cX12_dieNow 71 = .ok (.goto 4, 3) := by decide +kernel
theorem dX12_dieNow_74 : decode cX12_dieNow 74 = .ok (.iconst 0, 1) := by decide +kernel
theorem dX12_dieNow_75 : decode cX12_dieNow 75 = .ok (.istore_n 3, 1) := by decide +kernel
theorem dX12_dieNow_76 : decode cX12_dieNow 76 = .ok (.iload_n 3, 1) := by decide +kernel
theorem dX12_dieNow_77 : decode cX12_dieNow 77 = .ok (.ifCond .ne 6, 3) := by decide +kernel
theorem dX12_dieNow_80 : decode cX12_dieNow 80 = .ok (.bipush (-3), 2) := by decide +kernel
theorem dX12_dieNow_82 : decode cX12_dieNow 82 = .ok (.ireturn, 1) := by decide +kernel
theorem dX12_dieNow_83 : decode cX12_dieNow 83 = .ok (.aload_n 0, 1) := by decide +kernel
theorem dX12_dieNow_84 : decode cX12_dieNow 84 = .ok (.iconst 1, 1) := by decide +kernel
theorem dX12_dieNow_85 : decode cX12_dieNow 85 = .ok (.invokevirtual 450, 3) := by decide +kernel
theorem dX12_dieNow_88 : decode cX12_dieNow 88 = .ok (.aload_n 0, 1) := by decide +kernel
theorem dX12_dieNow_89 : decode cX12_dieNow 89 = .ok (.iload_n 1, 1) := by decide +kernel
theorem dX12_dieNow_90 : decode cX12_dieNow 90 = .ok (.iload_n 2, 1) := by decide +kernel
theorem dX12_dieNow_91 : decode cX12_dieNow 91 = .ok (.invokevirtual 456, 3) := by decide +kernel
theorem dX12_dieNow_94 : decode cX12_dieNow 94 = .ok (.aload_n 0, 1) := by decide +kernel
theorem dX12_dieNow_95 : decode cX12_dieNow 95 = .ok (.getfield 13, 3) := by decide +kernel
theorem dX12_dieNow_98 : decode cX12_dieNow 98 = .ok (.bipush 14, 2) := by decide +kernel
theorem dX12_dieNow_100 : decode cX12_dieNow 100 = .ok (.iload_n 1, 1) := by decide +kernel
theorem dX12_dieNow_101 : decode cX12_dieNow 101 = .ok (.iadd, 1) := by decide +kernel
theorem dX12_dieNow_102 : decode cX12_dieNow 102 = .ok (.iaload, 1) := by decide +kernel
theorem dX12_dieNow_103 : decode cX12_dieNow 103 = .ok (.invokestatic 190, 3) := by decide +kernel
theorem dX12_dieNow_106 : decode cX12_dieNow 106 = .ok (.ireturn, 1) := by decide +kernel
theorem dX12_die_0 : decode cX12_die 0 = .ok (.aload_n 0, 1) := by decide +kernel
theorem dX12_die_1 : decode cX12_die 1 = .ok (.iconst 0, 1) := by decide +kernel
theorem dX12_die_2 : decode cX12_die 2 = .ok (.putfield 161, 3) := by decide +kernel
theorem dX12_die_5 : decode cX12_die 5 = .ok (.aload_n 0, 1) := by decide +kernel
theorem dX12_die_6 : decode cX12_die 6 = .ok (.aload_n 0, 1) := by decide +kernel
theorem dX12_die_7 : decode cX12_die 7 = .ok (.iload_n 1, 1) := by decide +kernel
theorem dX12_die_8 : decode cX12_die 8 = .ok (.iload_n 2, 1) := by decide +kernel
theorem dX12_die_9 : decode cX12_die 9 = .ok (.invokevirtual 459, 3) := by decide +kernel
theorem dX12_die_12 : decode cX12_die 12 = .ok (.invokevirtual 170, 3) := by decide +kernel
theorem dX12_die_15 : decode cX12_die 15 = .ok (.ireturn, 1) := by decide +kernel
theorem dX12_clipNow_0 : decode cX12_clipNow 0 = .ok (.iload_n 2, 1) := by decide +kernel
theorem dX12_clipNow_1 : decode cX12_clipNow 1 = .ok (.i2l, 1) := by decide +kernel
theorem dX12_clipNow_2 : decode cX12_clipNow 2 = .ok (.lconst 0, 1) := by decide +kernel
theorem dX12_clipNow_3 : decode cX12_clipNow 3 = .ok (.ldc2_w 188, 3) := by decide +kernel
theorem dX12_clipNow_6 : decode cX12_clipNow 6 = .ok (.invokestatic 181, 3) := by decide +kernel
theorem dX12_clipNow_9 : decode cX12_clipNow 9 = .ok (.ifCond .ne 5, 3) := by decide +kernel
theorem dX12_clipNow_12 : decode cX12_clipNow 12 = .ok (.iconst (-1), 1) := by decide +kernel
theorem dX12_clipNow_13 : decode cX12_clipNow 13 = .ok (.ireturn, 1) := by decide +kernel
theorem dX12_clipNow_14 : decode cX12_clipNow 14 = .ok (.aload_n 0, 1) := by decide +kernel
theorem dX12_clipNow_15 : decode cX12_clipNow 15 = .ok (.iload_n 1, 1) := by decide +kernel
theorem dX12_clipNow_16 : decode cX12_clipNow 16 = .ok (.invokevirtual 210, 3) := by decide +kernel
theorem dX12_clipNow_19 : decode cX12_clipNow 19 = .ok (.ifCond .ne 6, 3) := by decide +kernel
theorem dX12_clipNow_22 : decode cX12_clipNow 22 = .ok (.bipush (-2), 2) := by decide +kernel
theorem dX12_clipNow_24 : decode cX12_clipNow 24 = .ok (.ireturn, 1) := by decide +kernel
theorem dX12_clipNow_25 : decode cX12_clipNow 25 = .ok (.aload_n 0, 1) := by decide +kernel
theorem dX12_clipNow_26 : decode cX12_clipNow 26 = .ok (.getfield 13, 3) := by decide +kernel
theorem dX12_clipNow_29 : decode cX12_clipNow 29 = .ok (.bipush 20, 2) := by decide +kernel
theorem dX12_clipNow_31 : decode cX12_clipNow 31 = .ok (.iload_n 1, 1) := by decide +kernel
theorem dX12_clipNow_32 : decode cX12_clipNow 32 = .ok (.iadd, 1) := by decide +kernel
theorem dX12_clipNow_33 : decode cX12_clipNow 33 = .ok (.iaload, 1) := by decide +kernel
theorem dX12_clipNow_34 : decode cX12_clipNow 34 = .ok (.istore_n 3, 1) := by decide +kernel
theorem dX12_clipNow_35 : decode cX12_clipNow 35 = .ok (.iload_n 3, 1) := by decide +kernel
theorem dX12_clipNow_36 : decode cX12_clipNow 36 = .ok (.iload_n 2, 1) := by decide +kernel
theorem dX12_clipNow_37 : decode cX12_clipNow 37 = .ok (.if_icmp .ne 6, 3) := by decide +kernel
theorem dX12_clipNow_40 : decode cX12_clipNow 40 = .ok (.bipush (-3), 2) := by decide +kernel
theorem dX12_clipNow_42 : decode cX12_clipNow 42 = .ok (.ireturn, 1) := by decide +kernel
theorem dX12_clipNow_43 : decode cX12_clipNow 43 = .ok (.aload_n 0, 1) := by decide +kernel
theorem dX12_clipNow_44 : decode cX12_clipNow 44 = .ok (.iconst 2, 1) := by decide +kernel
theorem dX12_clipNow_45 : decode cX12_clipNow 45 = .ok (.invokevirtual 450, 3) := by decide +kernel
theorem dX12_clipNow_48 : decode cX12_clipNow 48 = .ok (.aload_n 0, 1) := by decide +kernel
theorem dX12_clipNow_49 : decode cX12_clipNow 49 = .ok (.getfield 13, 3) := by decide +kernel
theorem dX12_clipNow_52 : decode cX12_clipNow 52 = .ok (.bipush 20, 2) := by decide +kernel
theorem dX12_clipNow_54 : decode cX12_clipNow 54 = .ok (.iload_n 1, 1) := by decide +kernel
theorem dX12_clipNow_55 : decode cX12_clipNow 55 = .ok (.iadd, 1) := by decide +kernel
theorem dX12_clipNow_56 : decode cX12_clipNow 56 = .ok (.iload_n 2, 1) := by decide +kernel
theorem dX12_clipNow_57 : decode cX12_clipNow 57 = .ok (.iastore, 1) := by decide +kernel
theorem dX12_clipNow_58 : decode cX12_clipNow 58 = .ok (.iload_n 3, 1) := by decide +kernel
theorem dX12_clipNow_59 : decode cX12_clipNow 59 = .ok (.ireturn, 1) := by decide +kernel
theorem dX12_clip_0 : decode cX12_clip 0 = .ok (.aload_n 0, 1) := by decide +kernel
theorem dX12_clip_1 : decode cX12_clip 1 = .ok (.iconst 0, 1) := by decide +kernel
theorem dX12_clip_2 : decode cX12_clip 2 = .ok (.putfield 161, 3) := by decide +kernel
theorem dX12_clip_5 : decode cX12_clip 5 = .ok (.aload_n 0, 1) := by decide +kernel
theorem dX12_clip_6 : decode cX12_clip 6 = .ok (.aload_n 0, 1) := by decide +kernel
theorem dX12_clip_7 : decode cX12_clip 7 = .ok (.iload_n 1, 1) := by decide +kernel
theorem dX12_clip_8 : decode cX12_clip 8 = .ok (.iload_n 2, 1) := by decide +kernel
theorem dX12_clip_9 : decode cX12_clip 9 = .ok (.invokevirtual 462, 3) := by decide +kernel
theorem dX12_clip_12 : decode cX12_clip 12 = .ok (.invokevirtual 170, 3) := by decide +kernel
theorem dX12_clip_15 : decode cX12_clip 15 = .ok (.ireturn, 1) := by decide +kernel
theorem dX12_passIt_0 : decode cX12_passIt 0 = .ok (.iconst 0, 1) := by decide +kernel
theorem dX12_passIt_1 : decode cX12_passIt 1 = .ok (.istore_n 1, 1) := by decide +kernel
theorem dX12_passIt_2 : decode cX12_passIt 2 = .ok (.iload_n 1, 1) := by decide +kernel
theorem dX12_passIt_3 : decode cX12_passIt 3 = .ok (.aload_n 0, 1) := by decide +kernel
theorem dX12_passIt_4 : decode cX12_passIt 4 = .ok (.getfield 13, 3) := by decide +kernel
theorem dX12_passIt_7 : decode cX12_passIt 7 = .ok (.iconst 0, 1) := by decide +kernel
theorem dX12_passIt_8 : decode cX12_passIt 8 = .ok (.iaload, 1) := by decide +kernel
theorem dX12_passIt_9 : decode cX12_passIt 9 = .ok (.if_icmp .ge 46, 3) := by decide +kernel
theorem dX12_passIt_12 : decode cX12_passIt 12 = .ok (.aload_n 0, 1) := by decide +kernel
theorem dX12_passIt_13 : decode cX12_passIt 13 = .ok (.getfield 108, 3) := by decide +kernel
theorem dX12_passIt_16 : decode cX12_passIt 16 = .ok (.iload_n 1, 1) := by decide +kernel
theorem dX12_passIt_17 : decode cX12_passIt 17 = .ok (.aload_n 0, 1) := by decide +kernel
theorem dX12_passIt_18 : decode cX12_passIt 18 = .ok (.iload_n 1, 1) := by decide +kernel
theorem dX12_passIt_19 : decode cX12_passIt 19 = .ok (.invokevirtual 193, 3) := by decide +kernel
theorem dX12_passIt_22 : decode cX12_passIt 22 = .ok (.ifCond .eq 25, 3) := by decide +kernel
theorem dX12_passIt_25 : decode cX12_passIt 25 = .ok (.aload_n 0, 1) := by decide +kernel
theorem dX12_passIt_26 : decode cX12_passIt 26 = .ok (.iload_n 1, 1) := by decide +kernel
theorem dX12_passIt_27 : decode cX12_passIt 27 = .ok (.aload_n 0, 1) := by decide +kernel
theorem dX12_passIt_28 : decode cX12_passIt 28 = .ok (.getfield 13, 3) := by decide +kernel
theorem dX12_passIt_31 : decode cX12_passIt 31 = .ok (.bipush 8, 2) := by decide +kernel
theorem dX12_passIt_33 : decode cX12_passIt 33 = .ok (.iload_n 1, 1) := by decide +kernel
theorem dX12_passIt_34 : decode cX12_passIt 34 = .ok (.iadd, 1) := by decide +kernel
theorem dX12_passIt_35 : decode cX12_passIt 35 = .ok (.iaload, 1) := by decide +kernel
theorem dX12_passIt_36 : decode cX12_passIt 36 = .ok (.aload_n 0, 1) := by decide +kernel
theorem dX12_passIt_37 : decode cX12_passIt 37 = .ok (.iload_n 1, 1) := by decide +kernel
theorem dX12_passIt_38 : decode cX12_passIt 38 = .ok (.invokevirtual 213, 3) := by decide +kernel
theorem dX12_passIt_41 : decode cX12_passIt 41 = .ok (.invokevirtual 216, 3) := by decide +kernel
theorem dX12_passIt_44 : decode cX12_passIt 44 = .ok (.goto 4, 3) := by decide +kernel
theorem dX12_passIt_47 : decode cX12_passIt 47 = .ok (.iconst 0, 1) := by decide +kernel
theorem dX12_passIt_48 : decode cX12_passIt 48 = .ok (.iastore, 1) := by decide +kernel
theorem dX12_passIt_49 : decode cX12_passIt 49 = .ok (.iinc 1 1, 3) := by decide +kernel
theorem dX12_passIt_52 : decode cX12_passIt 52 = .ok (.goto (-50), 3) := by decide +kernel
theorem dX12_passIt_55 : decode cX12_passIt 55 = .ok (.iconst 0, 1) := by decide +kernel
theorem dX12_passIt_56 : decode cX12_passIt 56 = .ok (.istore_n 1, 1) := by decide +kernel
theorem dX12_passIt_57 : decode cX12_passIt 57 = .ok (.iload_n 1, 1) := by decide +kernel
theorem dX12_passIt_58 : decode cX12_passIt 58 = .ok (.aload_n 0, 1) := by decide +kernel
theorem dX12_passIt_59 : decode cX12_passIt 59 = .ok (.getfield 13, 3) := by decide +kernel
theorem dX12_passIt_62 : decode cX12_passIt 62 = .ok (.iconst 0, 1) := by decide +kernel
theorem dX12_passIt_63 : decode cX12_passIt 63 = .ok (.iaload, 1) := by decide +kernel
theorem dX12_passIt_64 : decode cX12_passIt 64 = .ok (.if_icmp .ge 42, 3) := by decide +kernel
theorem dX12_passIt_67 : decode cX12_passIt 67 = .ok (.aload_n 0, 1) := by decide +kernel
theorem dX12_passIt_68 : decode cX12_passIt 68 = .ok (.getfield 13, 3) := by decide +kernel
theorem dX12_passIt_71 : decode cX12_passIt 71 = .ok (.bipush 26, 2) := by decide +kernel
theorem dX12_passIt_73 : decode cX12_passIt 73 = .ok (.iload_n 1, 1) := by decide +kernel
theorem dX12_passIt_74 : decode cX12_passIt 74 = .ok (.iadd, 1) := by decide +kernel
theorem dX12_passIt_75 : decode cX12_passIt 75 = .ok (.aload_n 0, 1) := by decide +kernel
theorem dX12_passIt_76 : decode cX12_passIt 76 = .ok (.getfield 13, 3) := by decide +kernel
theorem dX12_passIt_79 : decode cX12_passIt 79 = .ok (.bipush 26, 2) := by decide +kernel
theorem dX12_passIt_81 : decode cX12_passIt 81 = .ok (.iload_n 1, 1) := by decide +kernel
theorem dX12_passIt_82 : decode cX12_passIt 82 = .ok (.iadd, 1) := by decide +kernel
theorem dX12_passIt_83 : decode cX12_passIt 83 = .ok (.iaload, 1) := by decide +kernel
theorem dX12_passIt_84 : decode cX12_passIt 84 = .ok (.aload_n 0, 1) := by decide +kernel
theorem dX12_passIt_85 : decode cX12_passIt 85 = .ok (.getfield 108, 3) := by decide +kernel
theorem dX12_passIt_88 : decode cX12_passIt 88 = .ok (.iload_n 1, 1) := by decide +kernel
theorem dX12_passIt_89 : decode cX12_passIt 89 = .ok (.iaload, 1) := by decide +kernel
theorem dX12_passIt_90 : decode cX12_passIt 90 = .ok (.iadd, 1) := by decide +kernel
theorem dX12_passIt_91 : decode cX12_passIt 91 = .ok (.i2l, 1) := by decide +kernel
theorem dX12_passIt_92 : decode cX12_passIt 92 = .ok (.iconst 0, 1) := by decide +kernel
theorem dX12_passIt_93 : decode cX12_passIt 93 = .ok (.sipush 9999, 3) := by decide +kernel
theorem dX12_passIt_96 : decode cX12_passIt 96 = .ok (.invokestatic 443, 3) := by decide +kernel
theorem dX12_passIt_99 : decode cX12_passIt 99 = .ok (.iastore, 1) := by decide +kernel
theorem dX12_passIt_100 : decode cX12_passIt 100 = .ok (.iinc 1 1, 3) := by decide +kernel
theorem dX12_passIt_103 : decode cX12_passIt 103 = .ok (.goto (-46), 3) := by decide +kernel
theorem dX12_passIt_106 : decode cX12_passIt 106 = .ok (.aload_n 0, 1) := by decide +kernel
theorem dX12_passIt_107 : decode cX12_passIt 107 = .ok (.getfield 13, 3) := by decide +kernel
theorem dX12_passIt_110 : decode cX12_passIt 110 = .ok (.iconst 5, 1) := by decide +kernel
theorem dX12_passIt_111 : decode cX12_passIt 111 = .ok (.dup2, 1) := by decide +kernel
theorem dX12_passIt_112 : decode cX12_passIt 112 = .ok (.iaload, 1) := by decide +kernel
theorem dX12_passIt_113 : decode cX12_passIt 113 = .ok (.iconst 1, 1) := by decide +kernel
theorem dX12_passIt_114 : decode cX12_passIt 114 = .ok (.iadd, 1) := by decide +kernel
theorem dX12_passIt_115 : decode cX12_passIt 115 = .ok (.iastore, 1) := by decide +kernel
theorem dX12_passIt_116 : decode cX12_passIt 116 = .ok (.return_, 1) := by decide +kernel
theorem dX12_passNow_0 : decode cX12_passNow 0 = .ok (.aload_n 0, 1) := by decide +kernel
theorem dX12_passNow_1 : decode cX12_passNow 1 = .ok (.getfield 13, 3) := by decide +kernel
theorem dX12_passNow_4 : decode cX12_passNow 4 = .ok (.iconst 5, 1) := by decide +kernel
theorem dX12_passNow_5 : decode cX12_passNow 5 = .ok (.iaload, 1) := by decide +kernel
theorem dX12_passNow_6 : decode cX12_passNow 6 = .ok (.sipush 999, 3) := by decide +kernel
theorem dX12_passNow_9 : decode cX12_passNow 9 = .ok (.if_icmp .ne 6, 3) := by decide +kernel
theorem dX12_passNow_12 : decode cX12_passNow 12 = .ok (.bipush (-3), 2) := by decide +kernel
theorem dX12_passNow_14 : decode cX12_passNow 14 = .ok (.ireturn, 1) := by decide +kernel
theorem dX12_passNow_15 : decode cX12_passNow 15 = .ok (.aload_n 0, 1) := by decide +kernel
theorem dX12_passNow_16 : decode cX12_passNow 16 = .ok (.iconst 3, 1) := by decide +kernel
theorem dX12_passNow_17 : decode cX12_passNow 17 = .ok (.invokevirtual 450, 3) := by decide +kernel
theorem dX12_passNow_20 : decode cX12_passNow 20 = .ok (.aload_n 0, 1) := by decide +kernel
theorem dX12_passNow_21 : decode cX12_passNow 21 = .ok (.invokevirtual 465, 3) := by decide +kernel
theorem dX12_passNow_24 : decode cX12_passNow 24 = .ok (.aload_n 0, 1) := by decide +kernel
theorem dX12_passNow_25 : decode cX12_passNow 25 = .ok (.getfield 13, 3) := by decide +kernel
theorem dX12_passNow_28 : decode cX12_passNow 28 = .ok (.iconst 5, 1) := by decide +kernel
theorem dX12_passNow_29 : decode cX12_passNow 29 = .ok (.iaload, 1) := by decide +kernel
theorem dX12_passNow_30 : decode cX12_passNow 30 = .ok (.ireturn, 1) := by decide +kernel
theorem dX12_pass_0 : decode cX12_pass 0 = .ok (.aload_n 0, 1) := by decide +kernel
theorem dX12_pass_1 : decode cX12_pass 1 = .ok (.iconst 0, 1) := by decide +kernel
theorem dX12_pass_2 : decode cX12_pass 2 = .ok (.putfield 161, 3) := by decide +kernel
theorem dX12_pass_5 : decode cX12_pass 5 = .ok (.aload_n 0, 1) := by decide +kernel
theorem dX12_pass_6 : decode cX12_pass 6 = .ok (.aload_n 0, 1) := by decide +kernel
theorem dX12_pass_7 : decode cX12_pass 7 = .ok (.invokevirtual 468, 3) := by decide +kernel
theorem dX12_pass_10 : decode cX12_pass 10 = .ok (.invokevirtual 170, 3) := by decide +kernel
theorem dX12_pass_13 : decode cX12_pass 13 = .ok (.ireturn, 1) := by decide +kernel
theorem dX12_mostNext_0 : decode cX12_mostNext 0 = .ok (.lconst 0, 1) := by decide +kernel
theorem dX12_mostNext_1 : decode cX12_mostNext 1 = .ok (.lstore_n 2, 1) := by decide +kernel
theorem dX12_mostNext_2 : decode cX12_mostNext 2 = .ok (.iconst 0, 1) := by decide +kernel
theorem dX12_mostNext_3 : decode cX12_mostNext 3 = .ok (.istore 4, 2) := by decide +kernel
theorem dX12_mostNext_5 : decode cX12_mostNext 5 = .ok (.iload 4, 2) := by decide +kernel
theorem dX12_mostNext_7 : decode cX12_mostNext 7 = .ok (.bipush 9, 2) := by decide +kernel
theorem dX12_mostNext_9 : decode cX12_mostNext 9 = .ok (.if_icmp .ge 51, 3) := by decide +kernel
theorem dX12_mostNext_12 : decode cX12_mostNext 12 = .ok (.iload_n 1, 1) := by decide +kernel
theorem dX12_mostNext_13 : decode cX12_mostNext 13 = .ok (.iload 4, 2) := by decide +kernel
theorem dX12_mostNext_15 : decode cX12_mostNext 15 = .ok (.invokestatic 197, 3) := by decide +kernel
theorem dX12_mostNext_18 : decode cX12_mostNext 18 = .ok (.ifCond .eq 36, 3) := by decide +kernel
theorem dX12_mostNext_21 : decode cX12_mostNext 21 = .ok (.aload_n 0, 1) := by decide +kernel
theorem dX12_mostNext_22 : decode cX12_mostNext 22 = .ok (.getfield 117, 3) := by decide +kernel
theorem dX12_mostNext_25 : decode cX12_mostNext 25 = .ok (.bipush 9, 2) := by decide +kernel
theorem dX12_mostNext_27 : decode cX12_mostNext 27 = .ok (.iload_n 1, 1) := by decide +kernel
theorem dX12_mostNext_28 : decode cX12_mostNext 28 = .ok (.iconst 1, 1) := by decide +kernel
theorem dX12_mostNext_29 : decode cX12_mostNext 29 = .ok (.iload 4, 2) := by decide +kernel
theorem dX12_mostNext_31 : decode cX12_mostNext 31 = .ok (.ishl, 1) := by decide +kernel
theorem dX12_mostNext_32 : decode cX12_mostNext 32 = .ok (.isub, 1) := by decide +kernel
theorem dX12_mostNext_33 : decode cX12_mostNext 33 = .ok (.imul, 1) := by decide +kernel
theorem dX12_mostNext_34 : decode cX12_mostNext 34 = .ok (.iload 4, 2) := by decide +kernel
theorem dX12_mostNext_36 : decode cX12_mostNext 36 = .ok (.iadd, 1) := by decide +kernel
theorem dX12_mostNext_37 : decode cX12_mostNext 37 = .ok (.laload, 1) := by decide +kernel
theorem dX12_mostNext_38 : decode cX12_mostNext 38 = .ok (.lstore 5, 2) := by decide +kernel
theorem dX12_mostNext_40 : decode cX12_mostNext 40 = .ok (.lload 5, 2) := by decide +kernel
theorem dX12_mostNext_42 : decode cX12_mostNext 42 = .ok (.lload_n 2, 1) := by decide +kernel
theorem dX12_mostNext_43 : decode cX12_mostNext 43 = .ok (.lcmp, 1) := by decide +kernel
theorem dX12_mostNext_44 : decode cX12_mostNext 44 = .ok (.ifCond .le 8, 3) := by decide +kernel
theorem dX12_mostNext_47 : decode cX12_mostNext 47 = .ok (.lload 5, 2) := by decide +kernel
theorem dX12_mostNext_49 : decode cX12_mostNext 49 = .ok (.goto 4, 3) := by decide +kernel
theorem dX12_mostNext_52 : decode cX12_mostNext 52 = .ok (.lload_n 2, 1) := by decide +kernel
theorem dX12_mostNext_53 : decode cX12_mostNext 53 = .ok (.lstore_n 2, 1) := by decide +kernel
theorem dX12_mostNext_54 : decode cX12_mostNext 54 = .ok (.iinc 4 1, 3) := by decide +kernel
theorem dX12_mostNext_57 : decode cX12_mostNext 57 = .ok (.goto (-52), 3) := by decide +kernel
theorem dX12_mostNext_60 : decode cX12_mostNext 60 = .ok (.lload_n 2, 1) := by decide +kernel
theorem dX12_mostNext_61 : decode cX12_mostNext 61 = .ok (.lreturn, 1) := by decide +kernel
theorem dX12_layHad_0 : decode cX12_layHad 0 = .ok (.iconst 0, 1) := by decide +kernel
theorem dX12_layHad_1 : decode cX12_layHad 1 = .ok (.istore_n 3, 1) := by decide +kernel
theorem dX12_layHad_2 : decode cX12_layHad 2 = .ok (.iload_n 3, 1) := by decide +kernel
theorem dX12_layHad_3 : decode cX12_layHad 3 = .ok (.bipush 9, 2) := by decide +kernel
theorem dX12_layHad_5 : decode cX12_layHad 5 = .ok (.if_icmp .ge 65, 3) := by decide +kernel
theorem dX12_layHad_8 : decode cX12_layHad 8 = .ok (.iconst 0, 1) := by decide +kernel
theorem dX12_layHad_9 : decode cX12_layHad 9 = .ok (.istore 4, 2) := by decide +kernel
theorem dX12_layHad_11 : decode cX12_layHad 11 = .ok (.iload 4, 2) := by decide +kernel
theorem dX12_layHad_13 : decode cX12_layHad 13 = .ok (.bipush 9, 2) := by decide +kernel
theorem dX12_layHad_15 : decode cX12_layHad 15 = .ok (.if_icmp .ge 49, 3) := by decide +kernel
theorem dX12_layHad_18 : decode cX12_layHad 18 = .ok (.aload_n 0, 1) := by decide +kernel
theorem dX12_layHad_19 : decode cX12_layHad 19 = .ok (.getfield 111, 3) := by decide +kernel
theorem dX12_layHad_22 : decode cX12_layHad 22 = .ok (.bipush 9, 2) := by decide +kernel
theorem dX12_layHad_24 : decode cX12_layHad 24 = .ok (.iload_n 3, 1) := by decide +kernel
theorem dX12_layHad_25 : decode cX12_layHad 25 = .ok (.imul, 1) := by decide +kernel
theorem dX12_layHad_26 : decode cX12_layHad 26 = .ok (.iload 4, 2) := by decide +kernel
theorem dX12_layHad_28 : decode cX12_layHad 28 = .ok (.iadd, 1) := by decide +kernel
theorem dX12_layHad_29 : decode cX12_layHad 29 = .ok (.aload_n 0, 1) := by decide +kernel
theorem dX12_layHad_30 : decode cX12_layHad 30 = .ok (.iload_n 1, 1) := by decide +kernel
theorem dX12_layHad_31 : decode cX12_layHad 31 = .ok (.iload_n 3, 1) := by decide +kernel
theorem dX12_layHad_32 : decode cX12_layHad 32 = .ok (.iload 4, 2) := by decide +kernel
theorem dX12_layHad_34 : decode cX12_layHad 34 = .ok (.invokevirtual 216, 3) := by decide +kernel
theorem dX12_layHad_37 : decode cX12_layHad 37 = .ok (.iastore, 1) := by decide +kernel
theorem dX12_layHad_38 : decode cX12_layHad 38 = .ok (.aload_n 0, 1) := by decide +kernel
theorem dX12_layHad_39 : decode cX12_layHad 39 = .ok (.getfield 114, 3) := by decide +kernel
theorem dX12_layHad_42 : decode cX12_layHad 42 = .ok (.bipush 9, 2) := by decide +kernel
theorem dX12_layHad_44 : decode cX12_layHad 44 = .ok (.iload_n 3, 1) := by decide +kernel
theorem dX12_layHad_45 : decode cX12_layHad 45 = .ok (.imul, 1) := by decide +kernel
theorem dX12_layHad_46 : decode cX12_layHad 46 = .ok (.iload 4, 2) := by decide +kernel
theorem dX12_layHad_48 : decode cX12_layHad 48 = .ok (.iadd, 1) := by decide +kernel
theorem dX12_layHad_49 : decode cX12_layHad 49 = .ok (.aload_n 0, 1) := by decide +kernel
theorem dX12_layHad_50 : decode cX12_layHad 50 = .ok (.iload_n 1, 1) := by decide +kernel
theorem dX12_layHad_51 : decode cX12_layHad 51 = .ok (.iload_n 3, 1) := by decide +kernel
theorem dX12_layHad_52 : decode cX12_layHad 52 = .ok (.iload 4, 2) := by decide +kernel
theorem dX12_layHad_54 : decode cX12_layHad 54 = .ok (.invokevirtual 219, 3) := by decide +kernel
theorem dX12_layHad_57 : decode cX12_layHad 57 = .ok (.iastore, 1) := by decide +kernel
theorem dX12_layHad_58 : decode cX12_layHad 58 = .ok (.iinc 4 1, 3) := by decide +kernel
theorem dX12_layHad_61 : decode cX12_layHad 61 = .ok (.goto (-50), 3) := by decide +kernel
theorem dX12_layHad_64 : decode cX12_layHad 64 = .ok (.iinc 3 1, 3) := by decide +kernel
theorem dX12_layHad_67 : decode cX12_layHad 67 = .ok (.goto (-65), 3) := by decide +kernel
theorem dX12_layHad_70 : decode cX12_layHad 70 = .ok (.iconst 0, 1) := by decide +kernel
theorem dX12_layHad_71 : decode cX12_layHad 71 = .ok (.istore_n 3, 1) := by decide +kernel
theorem dX12_layHad_72 : decode cX12_layHad 72 = .ok (.iload_n 3, 1) := by decide +kernel
theorem dX12_layHad_73 : decode cX12_layHad 73 = .ok (.sipush 4608, 3) := by decide +kernel
theorem dX12_layHad_76 : decode cX12_layHad 76 = .ok (.if_icmp .ge 16, 3) := by decide +kernel
theorem dX12_layHad_79 : decode cX12_layHad 79 = .ok (.aload_n 0, 1) := by decide +kernel
theorem dX12_layHad_80 : decode cX12_layHad 80 = .ok (.getfield 117, 3) := by decide +kernel
theorem dX12_layHad_83 : decode cX12_layHad 83 = .ok (.iload_n 3, 1) := by decide +kernel
theorem dX12_layHad_84 : decode cX12_layHad 84 = .ok (.lconst 0, 1) := by decide +kernel
theorem dX12_layHad_85 : decode cX12_layHad 85 = .ok (.lastore, 1) := by decide +kernel
theorem dX12_layHad_86 : decode cX12_layHad 86 = .ok (.iinc 3 1, 3) := by decide +kernel
theorem dX12_layHad_89 : decode cX12_layHad 89 = .ok (.goto (-17), 3) := by decide +kernel
theorem dX12_layHad_92 : decode cX12_layHad 92 = .ok (.iconst 0, 1) := by decide +kernel
theorem dX12_layHad_93 : decode cX12_layHad 93 = .ok (.istore_n 3, 1) := by decide +kernel
theorem dX12_layHad_94 : decode cX12_layHad 94 = .ok (.iload_n 3, 1) := by decide +kernel
theorem dX12_layHad_95 : decode cX12_layHad 95 = .ok (.iload_n 2, 1) := by decide +kernel
theorem dX12_layHad_96 : decode cX12_layHad 96 = .ok (.if_icmp .ge 175, 3) := by decide +kernel
theorem dX12_layHad_99 : decode cX12_layHad 99 = .ok (.iconst 0, 1) := by decide +kernel
theorem dX12_layHad_100 : decode cX12_layHad 100 = .ok (.istore 4, 2) := by decide +kernel
theorem dX12_layHad_102 : decode cX12_layHad 102 = .ok (.iload 4, 2) := by decide +kernel
theorem dX12_layHad_104 : decode cX12_layHad 104 = .ok (.sipush 511, 3) := by decide +kernel
theorem dX12_layHad_107 : decode cX12_layHad 107 = .ok (.if_icmp .ge 127, 3) := by decide +kernel
theorem dX12_layHad_110 : decode cX12_layHad 110 = .ok (.aload_n 0, 1) := by decide +kernel
theorem dX12_layHad_111 : decode cX12_layHad 111 = .ok (.iload 4, 2) := by decide +kernel
theorem dX12_layHad_113 : decode cX12_layHad 113 = .ok (.invokevirtual 471, 3) := by decide +kernel
theorem dX12_layHad_116 : decode cX12_layHad 116 = .ok (.lstore 5, 2) := by decide +kernel
theorem dX12_layHad_118 : decode cX12_layHad 118 = .ok (.bipush 8, 2) := by decide +kernel
theorem dX12_layHad_120 : decode cX12_layHad 120 = .ok (.iload 4, 2) := by decide +kernel
theorem dX12_layHad_122 : decode cX12_layHad 122 = .ok (.invokestatic 190, 3) := by decide +kernel
theorem dX12_layHad_125 : decode cX12_layHad 125 = .ok (.isub, 1) := by decide +kernel
theorem dX12_layHad_126 : decode cX12_layHad 126 = .ok (.istore 7, 2) := by decide +kernel
theorem dX12_layHad_128 : decode cX12_layHad 128 = .ok (.iconst 0, 1) := by decide +kernel
theorem dX12_layHad_129 : decode cX12_layHad 129 = .ok (.istore 8, 2) := by decide +kernel
theorem dX12_layHad_131 : decode cX12_layHad 131 = .ok (.iload 8, 2) := by decide +kernel
theorem dX12_layHad_133 : decode cX12_layHad 133 = .ok (.bipush 9, 2) := by decide +kernel
theorem dX12_layHad_135 : decode cX12_layHad 135 = .ok (.if_icmp .ge 93, 3) := by decide +kernel
theorem dX12_layHad_138 : decode cX12_layHad 138 = .ok (.bipush 9, 2) := by decide +kernel
theorem dX12_layHad_140 : decode cX12_layHad 140 = .ok (.iload 4, 2) := by decide +kernel
theorem dX12_layHad_142 : decode cX12_layHad 142 = .ok (.imul, 1) := by decide +kernel
theorem dX12_layHad_143 : decode cX12_layHad 143 = .ok (.iload 8, 2) := by decide +kernel
theorem dX12_layHad_145 : decode cX12_layHad 145 = .ok (.iadd, 1) := by decide +kernel
theorem dX12_layHad_146 : decode cX12_layHad 146 = .ok (.istore 9, 2) := by decide +kernel
theorem dX12_layHad_148 : decode cX12_layHad 148 = .ok (.aload_n 0, 1) := by decide +kernel
theorem dX12_layHad_149 : decode cX12_layHad 149 = .ok (.getfield 111, 3) := by decide +kernel
theorem dX12_layHad_152 : decode cX12_layHad 152 = .ok (.bipush 9, 2) := by decide +kernel
theorem dX12_layHad_154 : decode cX12_layHad 154 = .ok (.iload 8, 2) := by decide +kernel
theorem dX12_layHad_156 : decode cX12_layHad 156 = .ok (.imul, 1) := by decide +kernel
theorem dX12_layHad_157 : decode cX12_layHad 157 = .ok (.iload 7, 2) := by decide +kernel
theorem dX12_layHad_159 : decode cX12_layHad 159 = .ok (.iadd, 1) := by decide +kernel
theorem dX12_layHad_160 : decode cX12_layHad 160 = .ok (.iaload, 1) := by decide +kernel
theorem dX12_layHad_161 : decode cX12_layHad 161 = .ok (.istore 10, 2) := by decide +kernel
theorem dX12_layHad_163 : decode cX12_layHad 163 = .ok (.aload_n 0, 1) := by decide +kernel
theorem dX12_layHad_164 : decode cX12_layHad 164 = .ok (.getfield 114, 3) := by decide +kernel
theorem dX12_layHad_167 : decode cX12_layHad 167 = .ok (.bipush 9, 2) := by decide +kernel
theorem dX12_layHad_169 : decode cX12_layHad 169 = .ok (.iload 8, 2) := by decide +kernel
theorem dX12_layHad_171 : decode cX12_layHad 171 = .ok (.imul, 1) := by decide +kernel
theorem dX12_layHad_172 : decode cX12_layHad 172 = .ok (.iload 7, 2) := by decide +kernel
theorem dX12_layHad_174 : decode cX12_layHad 174 = .ok (.iadd, 1) := by decide +kernel
theorem dX12_layHad_175 : decode cX12_layHad 175 = .ok (.iaload, 1) := by decide +kernel
theorem dX12_layHad_176 : decode cX12_layHad 176 = .ok (.istore 11, 2) := by decide +kernel
theorem dX12_layHad_178 : decode cX12_layHad 178 = .ok (.aload_n 0, 1) := by decide +kernel
theorem dX12_layHad_179 : decode cX12_layHad 179 = .ok (.getfield 120, 3) := by decide +kernel
theorem dX12_layHad_182 : decode cX12_layHad 182 = .ok (.iload 9, 2) := by decide +kernel
theorem dX12_layHad_184 : decode cX12_layHad 184 = .ok (.iload 10, 2) := by decide +kernel
theorem dX12_layHad_186 : decode cX12_layHad 186 = .ok (.i2l, 1) := by decide +kernel
theorem dX12_layHad_187 : decode cX12_layHad 187 = .ok (.ldc2_w 289, 3) := by decide +kernel
theorem dX12_layHad_190 : decode cX12_layHad 190 = .ok (.lmul, 1) := by decide +kernel
theorem dX12_layHad_191 : decode cX12_layHad 191 = .ok (.aload_n 0, 1) := by decide +kernel
theorem dX12_layHad_192 : decode cX12_layHad 192 = .ok (.getfield 117, 3) := by decide +kernel
theorem dX12_layHad_195 : decode cX12_layHad 195 = .ok (.iload 9, 2) := by decide +kernel
theorem dX12_layHad_197 : decode cX12_layHad 197 = .ok (.laload, 1) := by decide +kernel
theorem dX12_layHad_198 : decode cX12_layHad 198 = .ok (.bipush 10, 2) := by decide +kernel
theorem dX12_layHad_200 : decode cX12_layHad 200 = .ok (.iload 11, 2) := by decide +kernel
theorem dX12_layHad_202 : decode cX12_layHad 202 = .ok (.isub, 1) := by decide +kernel
theorem dX12_layHad_203 : decode cX12_layHad 203 = .ok (.i2l, 1) := by decide +kernel
theorem dX12_layHad_204 : decode cX12_layHad 204 = .ok (.lmul, 1) := by decide +kernel
theorem dX12_layHad_205 : decode cX12_layHad 205 = .ok (.ldc2_w 242, 3) := by decide +kernel
theorem dX12_layHad_208 : decode cX12_layHad 208 = .ok (.ldiv, 1) := by decide +kernel
theorem dX12_layHad_209 : decode cX12_layHad 209 = .ok (.ladd, 1) := by decide +kernel
theorem dX12_layHad_210 : decode cX12_layHad 210 = .ok (.lload 5, 2) := by decide +kernel
theorem dX12_layHad_212 : decode cX12_layHad 212 = .ok (.iload 11, 2) := by decide +kernel
theorem dX12_layHad_214 : decode cX12_layHad 214 = .ok (.i2l, 1) := by decide +kernel
theorem dX12_layHad_215 : decode cX12_layHad 215 = .ok (.lmul, 1) := by decide +kernel
theorem dX12_layHad_216 : decode cX12_layHad 216 = .ok (.ldc2_w 242, 3) := by decide +kernel
theorem dX12_layHad_219 : decode cX12_layHad 219 = .ok (.ldiv, 1) := by decide +kernel
theorem dX12_layHad_220 : decode cX12_layHad 220 = .ok (.ladd, 1) := by decide +kernel
theorem dX12_layHad_221 : decode cX12_layHad 221 = .ok (.lastore, 1) := by decide +kernel
theorem dX12_layHad_222 : decode cX12_layHad 222 = .ok (.iinc 8 1, 3) := by decide +kernel
theorem dX12_layHad_225 : decode cX12_layHad 225 = .ok (.goto (-94), 3) := by decide +kernel
theorem dX12_layHad_228 : decode cX12_layHad 228 = .ok (.iinc 4 1, 3) := by decide +kernel
theorem dX12_layHad_231 : decode cX12_layHad 231 = .ok (.goto (-129), 3) := by decide +kernel
theorem dX12_layHad_234 : decode cX12_layHad 234 = .ok (.iconst 0, 1) := by decide +kernel
theorem dX12_layHad_235 : decode cX12_layHad 235 = .ok (.istore 4, 2) := by decide +kernel
theorem dX12_layHad_237 : decode cX12_layHad 237 = .ok (.iload 4, 2) := by decide +kernel
theorem dX12_layHad_239 : decode cX12_layHad 239 = .ok (.sipush 4608, 3) := by decide +kernel
theorem dX12_layHad_242 : decode cX12_layHad 242 = .ok (.if_icmp .ge 23, 3) := by decide +kernel
theorem dX12_layHad_245 : decode cX12_layHad 245 = .ok (.aload_n 0, 1) := by decide +kernel
theorem dX12_layHad_246 : decode cX12_layHad 246 = .ok (.getfield 117, 3) := by decide +kernel
theorem dX12_layHad_249 : decode cX12_layHad 249 = .ok (.iload 4, 2) := by decide +kernel
theorem dX12_layHad_251 : decode cX12_layHad 251 = .ok (.aload_n 0, 1) := by decide +kernel
theorem dX12_layHad_252 : decode cX12_layHad 252 = .ok (.getfield 120, 3) := by decide +kernel
theorem dX12_layHad_255 : decode cX12_layHad 255 = .ok (.iload 4, 2) := by decide +kernel
theorem dX12_layHad_257 : decode cX12_layHad 257 = .ok (.laload, 1) := by decide +kernel
theorem dX12_layHad_258 : decode cX12_layHad 258 = .ok (.lastore, 1) := by decide +kernel
theorem dX12_layHad_259 : decode cX12_layHad 259 = .ok (.iinc 4 1, 3) := by decide +kernel
theorem dX12_layHad_262 : decode cX12_layHad 262 = .ok (.goto (-25), 3) := by decide +kernel
theorem dX12_layHad_265 : decode cX12_layHad 265 = .ok (.iinc 3 1, 3) := by decide +kernel
theorem dX12_layHad_268 : decode cX12_layHad 268 = .ok (.goto (-174), 3) := by decide +kernel
theorem dX12_layHad_271 : decode cX12_layHad 271 = .ok (.return_, 1) := by decide +kernel
theorem dX12_had_0 : decode cX12_had 0 = .ok (.aload_n 0, 1) := by decide +kernel
theorem dX12_had_1 : decode cX12_had 1 = .ok (.iconst 0, 1) := by decide +kernel
theorem dX12_had_2 : decode cX12_had 2 = .ok (.putfield 161, 3) := by decide +kernel
theorem dX12_had_5 : decode cX12_had 5 = .ok (.aload_n 0, 1) := by decide +kernel
theorem dX12_had_6 : decode cX12_had 6 = .ok (.iload_n 1, 1) := by decide +kernel
theorem dX12_had_7 : decode cX12_had 7 = .ok (.invokevirtual 210, 3) := by decide +kernel
theorem dX12_had_10 : decode cX12_had 10 = .ok (.ifCond .eq 23, 3) := by decide +kernel
theorem dX12_had_13 : decode cX12_had 13 = .ok (.iload_n 2, 1) := by decide +kernel
theorem dX12_had_14 : decode cX12_had 14 = .ok (.i2l, 1) := by decide +kernel
theorem dX12_had_15 : decode cX12_had 15 = .ok (.lconst 0, 1) := by decide +kernel
theorem dX12_had_16 : decode cX12_had 16 = .ok (.ldc2_w 204, 3) := by decide +kernel
theorem dX12_had_19 : decode cX12_had 19 = .ok (.invokestatic 181, 3) := by decide +kernel
theorem dX12_had_22 : decode cX12_had 22 = .ok (.ifCond .eq 11, 3) := by decide +kernel
theorem dX12_had_25 : decode cX12_had 25 = .ok (.aload_n 0, 1) := by decide +kernel
theorem dX12_had_26 : decode cX12_had 26 = .ok (.iload_n 1, 1) := by decide +kernel
theorem dX12_had_27 : decode cX12_had 27 = .ok (.invokevirtual 193, 3) := by decide +kernel
theorem dX12_had_30 : decode cX12_had 30 = .ok (.ifCond .ne 7, 3) := by decide +kernel
theorem dX12_had_33 : decode cX12_had 33 = .ok (.ldc2_w 287, 3) := by decide +kernel
theorem dX12_had_36 : decode cX12_had 36 = .ok (.lreturn, 1) := by decide +kernel
theorem dX12_had_37 : decode cX12_had 37 = .ok (.aload_n 0, 1) := by decide +kernel
theorem dX12_had_38 : decode cX12_had 38 = .ok (.iload_n 1, 1) := by decide +kernel
theorem dX12_had_39 : decode cX12_had 39 = .ok (.iload_n 2, 1) := by decide +kernel
theorem dX12_had_40 : decode cX12_had 40 = .ok (.invokevirtual 475, 3) := by decide +kernel
theorem dX12_had_43 : decode cX12_had 43 = .ok (.aload_n 0, 1) := by decide +kernel
theorem dX12_had_44 : decode cX12_had 44 = .ok (.getfield 117, 3) := by decide +kernel
theorem dX12_had_47 : decode cX12_had 47 = .ok (.bipush 9, 2) := by decide +kernel
theorem dX12_had_49 : decode cX12_had 49 = .ok (.aload_n 0, 1) := by decide +kernel
theorem dX12_had_50 : decode cX12_had 50 = .ok (.getfield 13, 3) := by decide +kernel
theorem dX12_had_53 : decode cX12_had 53 = .ok (.bipush 14, 2) := by decide +kernel
theorem dX12_had_55 : decode cX12_had 55 = .ok (.iload_n 1, 1) := by decide +kernel
theorem dX12_had_56 : decode cX12_had 56 = .ok (.iadd, 1) := by decide +kernel
theorem dX12_had_57 : decode cX12_had 57 = .ok (.iaload, 1) := by decide +kernel
theorem dX12_had_58 : decode cX12_had 58 = .ok (.imul, 1) := by decide +kernel
theorem dX12_had_59 : decode cX12_had 59 = .ok (.aload_n 0, 1) := by decide +kernel
theorem dX12_had_60 : decode cX12_had 60 = .ok (.getfield 13, 3) := by decide +kernel
theorem dX12_had_63 : decode cX12_had 63 = .ok (.bipush 8, 2) := by decide +kernel
theorem dX12_had_65 : decode cX12_had 65 = .ok (.iload_n 1, 1) := by decide +kernel
theorem dX12_had_66 : decode cX12_had 66 = .ok (.iadd, 1) := by decide +kernel
theorem dX12_had_67 : decode cX12_had 67 = .ok (.iaload, 1) := by decide +kernel
theorem dX12_had_68 : decode cX12_had 68 = .ok (.iadd, 1) := by decide +kernel
theorem dX12_had_69 : decode cX12_had 69 = .ok (.laload, 1) := by decide +kernel
theorem dX12_had_70 : decode cX12_had 70 = .ok (.lreturn, 1) := by decide +kernel
theorem dX12_next_0 : decode cX12_next 0 = .ok (.aload_n 0, 1) := by decide +kernel
theorem dX12_next_1 : decode cX12_next 1 = .ok (.iconst 0, 1) := by decide +kernel
theorem dX12_next_2 : decode cX12_next 2 = .ok (.putfield 161, 3) := by decide +kernel
theorem dX12_next_5 : decode cX12_next 5 = .ok (.aload_n 0, 1) := by decide +kernel
theorem dX12_next_6 : decode cX12_next 6 = .ok (.iload_n 1, 1) := by decide +kernel
theorem dX12_next_7 : decode cX12_next 7 = .ok (.invokevirtual 210, 3) := by decide +kernel
theorem dX12_next_10 : decode cX12_next 10 = .ok (.ifCond .eq 23, 3) := by decide +kernel
theorem dX12_next_13 : decode cX12_next 13 = .ok (.iload_n 2, 1) := by decide +kernel
theorem dX12_next_14 : decode cX12_next 14 = .ok (.i2l, 1) := by decide +kernel
theorem dX12_next_15 : decode cX12_next 15 = .ok (.lconst 0, 1) := by decide +kernel
theorem dX12_next_16 : decode cX12_next 16 = .ok (.ldc2_w 204, 3) := by decide +kernel
theorem dX12_next_19 : decode cX12_next 19 = .ok (.invokestatic 181, 3) := by decide +kernel
theorem dX12_next_22 : decode cX12_next 22 = .ok (.ifCond .eq 11, 3) := by decide +kernel
theorem dX12_next_25 : decode cX12_next 25 = .ok (.aload_n 0, 1) := by decide +kernel
theorem dX12_next_26 : decode cX12_next 26 = .ok (.iload_n 1, 1) := by decide +kernel
theorem dX12_next_27 : decode cX12_next 27 = .ok (.invokevirtual 193, 3) := by decide +kernel
theorem dX12_next_30 : decode cX12_next 30 = .ok (.ifCond .ne 5, 3) := by decide +kernel
theorem dX12_next_33 : decode cX12_next 33 = .ok (.iconst (-1), 1) := by decide +kernel
theorem dX12_next_34 : decode cX12_next 34 = .ok (.ireturn, 1) := by decide +kernel
theorem dX12_next_35 : decode cX12_next 35 = .ok (.aload_n 0, 1) := by decide +kernel
theorem dX12_next_36 : decode cX12_next 36 = .ok (.iload_n 1, 1) := by decide +kernel
theorem dX12_next_37 : decode cX12_next 37 = .ok (.iload_n 2, 1) := by decide +kernel
theorem dX12_next_38 : decode cX12_next 38 = .ok (.invokevirtual 475, 3) := by decide +kernel
theorem dX12_next_41 : decode cX12_next 41 = .ok (.aload_n 0, 1) := by decide +kernel
theorem dX12_next_42 : decode cX12_next 42 = .ok (.getfield 13, 3) := by decide +kernel
theorem dX12_next_45 : decode cX12_next 45 = .ok (.bipush 14, 2) := by decide +kernel
theorem dX12_next_47 : decode cX12_next 47 = .ok (.iload_n 1, 1) := by decide +kernel
theorem dX12_next_48 : decode cX12_next 48 = .ok (.iadd, 1) := by decide +kernel
theorem dX12_next_49 : decode cX12_next 49 = .ok (.iaload, 1) := by decide +kernel
theorem dX12_next_50 : decode cX12_next 50 = .ok (.istore_n 3, 1) := by decide +kernel
theorem dX12_next_51 : decode cX12_next 51 = .ok (.iconst (-1), 1) := by decide +kernel
theorem dX12_next_52 : decode cX12_next 52 = .ok (.istore 4, 2) := by decide +kernel
theorem dX12_next_54 : decode cX12_next 54 = .ok (.ldc2_w 287, 3) := by decide +kernel
theorem dX12_next_57 : decode cX12_next 57 = .ok (.lstore 5, 2) := by decide +kernel
theorem dX12_next_59 : decode cX12_next 59 = .ok (.iconst 0, 1) := by decide +kernel
theorem dX12_next_60 : decode cX12_next 60 = .ok (.istore 7, 2) := by decide +kernel
theorem dX12_next_62 : decode cX12_next 62 = .ok (.iload 7, 2) := by decide +kernel
theorem dX12_next_64 : decode cX12_next 64 = .ok (.bipush 9, 2) := by decide +kernel
theorem dX12_next_66 : decode cX12_next 66 = .ok (.if_icmp .ge 64, 3) := by decide +kernel
theorem dX12_next_69 : decode cX12_next 69 = .ok (.iload_n 3, 1) := by decide +kernel
theorem dX12_next_70 : decode cX12_next 70 = .ok (.iload 7, 2) := by decide +kernel
theorem dX12_next_72 : decode cX12_next 72 = .ok (.invokestatic 197, 3) := by decide +kernel
theorem dX12_next_75 : decode cX12_next 75 = .ok (.ifCond .eq 49, 3) := by decide +kernel
theorem dX12_next_78 : decode cX12_next 78 = .ok (.aload_n 0, 1) := by decide +kernel
theorem dX12_next_79 : decode cX12_next 79 = .ok (.getfield 117, 3) := by decide +kernel
theorem dX12_next_82 : decode cX12_next 82 = .ok (.bipush 9, 2) := by decide +kernel
theorem dX12_next_84 : decode cX12_next 84 = .ok (.iload_n 3, 1) := by decide +kernel
theorem dX12_next_85 : decode cX12_next 85 = .ok (.iconst 1, 1) := by decide +kernel
theorem dX12_next_86 : decode cX12_next 86 = .ok (.iload 7, 2) := by decide +kernel
theorem dX12_next_88 : decode cX12_next 88 = .ok (.ishl, 1) := by decide +kernel
theorem dX12_next_89 : decode cX12_next 89 = .ok (.isub, 1) := by decide +kernel
theorem dX12_next_90 : decode cX12_next 90 = .ok (.imul, 1) := by decide +kernel
theorem dX12_next_91 : decode cX12_next 91 = .ok (.iload 7, 2) := by decide +kernel
theorem dX12_next_93 : decode cX12_next 93 = .ok (.iadd, 1) := by decide +kernel
theorem dX12_next_94 : decode cX12_next 94 = .ok (.laload, 1) := by decide +kernel
theorem dX12_next_95 : decode cX12_next 95 = .ok (.lload 5, 2) := by decide +kernel
theorem dX12_next_97 : decode cX12_next 97 = .ok (.lcmp, 1) := by decide +kernel
theorem dX12_next_98 : decode cX12_next 98 = .ok (.ifCond .le 26, 3) := by decide +kernel
theorem dX12_next_101 : decode cX12_next 101 = .ok (.aload_n 0, 1) := by decide +kernel
theorem dX12_next_102 : decode cX12_next 102 = .ok (.getfield 117, 3) := by decide +kernel
theorem dX12_next_105 : decode cX12_next 105 = .ok (.bipush 9, 2) := by decide +kernel
theorem dX12_next_107 : decode cX12_next 107 = .ok (.iload_n 3, 1) := by decide +kernel
theorem dX12_next_108 : decode cX12_next 108 = .ok (.iconst 1, 1) := by decide +kernel
theorem dX12_next_109 : decode cX12_next 109 = .ok (.iload 7, 2) := by decide +kernel
theorem dX12_next_111 : decode cX12_next 111 = .ok (.ishl, 1) := by decide +kernel
theorem dX12_next_112 : decode cX12_next 112 = .ok (.isub, 1) := by decide +kernel
theorem dX12_next_113 : decode cX12_next 113 = .ok (.imul, 1) := by decide +kernel
theorem dX12_next_114 : decode cX12_next 114 = .ok (.iload 7, 2) := by decide +kernel
theorem dX12_next_116 : decode cX12_next 116 = .ok (.iadd, 1) := by decide +kernel
theorem dX12_next_117 : decode cX12_next 117 = .ok (.laload, 1) := by decide +kernel
theorem dX12_next_118 : decode cX12_next 118 = .ok (.lstore 5, 2) := by decide +kernel
theorem dX12_next_120 : decode cX12_next 120 = .ok (.iload 7, 2) := by decide +kernel
theorem dX12_next_122 : decode cX12_next 122 = .ok (.istore 4, 2) := by decide +kernel
theorem dX12_next_124 : decode cX12_next 124 = .ok (.iinc 7 1, 3) := by decide +kernel
theorem dX12_next_127 : decode cX12_next 127 = .ok (.goto (-65), 3) := by decide +kernel
theorem dX12_next_130 : decode cX12_next 130 = .ok (.iload 4, 2) := by decide +kernel
theorem dX12_next_132 : decode cX12_next 132 = .ok (.ireturn, 1) := by decide +kernel
theorem dX12_likely_0 : decode cX12_likely 0 = .ok (.aload_n 0, 1) := by decide +kernel
theorem dX12_likely_1 : decode cX12_likely 1 = .ok (.iconst 0, 1) := by decide +kernel
theorem dX12_likely_2 : decode cX12_likely 2 = .ok (.putfield 161, 3) := by decide +kernel
theorem dX12_likely_5 : decode cX12_likely 5 = .ok (.aload_n 0, 1) := by decide +kernel
theorem dX12_likely_6 : decode cX12_likely 6 = .ok (.iload_n 1, 1) := by decide +kernel
theorem dX12_likely_7 : decode cX12_likely 7 = .ok (.invokevirtual 210, 3) := by decide +kernel
theorem dX12_likely_10 : decode cX12_likely 10 = .ok (.ifCond .eq 15, 3) := by decide +kernel
theorem dX12_likely_13 : decode cX12_likely 13 = .ok (.iload_n 2, 1) := by decide +kernel
theorem dX12_likely_14 : decode cX12_likely 14 = .ok (.i2l, 1) := by decide +kernel
theorem dX12_likely_15 : decode cX12_likely 15 = .ok (.lconst 0, 1) := by decide +kernel
theorem dX12_likely_16 : decode cX12_likely 16 = .ok (.ldc2_w 478, 3) := by decide +kernel
theorem dX12_likely_19 : decode cX12_likely 19 = .ok (.invokestatic 181, 3) := by decide +kernel
theorem dX12_likely_22 : decode cX12_likely 22 = .ok (.ifCond .ne 7, 3) := by decide +kernel
theorem dX12_likely_25 : decode cX12_likely 25 = .ok (.ldc2_w 287, 3) := by decide +kernel
theorem dX12_likely_28 : decode cX12_likely 28 = .ok (.lreturn, 1) := by decide +kernel
theorem dX12_likely_29 : decode cX12_likely 29 = .ok (.aload_n 0, 1) := by decide +kernel
theorem dX12_likely_30 : decode cX12_likely 30 = .ok (.iload_n 1, 1) := by decide +kernel
theorem dX12_likely_31 : decode cX12_likely 31 = .ok (.invokevirtual 193, 3) := by decide +kernel
theorem dX12_likely_34 : decode cX12_likely 34 = .ok (.ifCond .ne 5, 3) := by decide +kernel
theorem dX12_likely_37 : decode cX12_likely 37 = .ok (.lconst 0, 1) := by decide +kernel
theorem dX12_likely_38 : decode cX12_likely 38 = .ok (.lreturn, 1) := by decide +kernel
theorem dX12_likely_39 : decode cX12_likely 39 = .ok (.iconst 1, 1) := by decide +kernel
theorem dX12_likely_40 : decode cX12_likely 40 = .ok (.istore_n 3, 1) := by decide +kernel
theorem dX12_likely_41 : decode cX12_likely 41 = .ok (.aload_n 0, 1) := by decide +kernel
theorem dX12_likely_42 : decode cX12_likely 42 = .ok (.iload_n 1, 1) := by decide +kernel
theorem dX12_likely_43 : decode cX12_likely 43 = .ok (.invokevirtual 213, 3) := by decide +kernel
theorem dX12_likely_46 : decode cX12_likely 46 = .ok (.istore 4, 2) := by decide +kernel
theorem dX12_likely_48 : decode cX12_likely 48 = .ok (.aload_n 0, 1) := by decide +kernel
theorem dX12_likely_49 : decode cX12_likely 49 = .ok (.getfield 126, 3) := by decide +kernel
theorem dX12_likely_52 : decode cX12_likely 52 = .ok (.iconst 0, 1) := by decide +kernel
theorem dX12_likely_53 : decode cX12_likely 53 = .ok (.aload_n 0, 1) := by decide +kernel
theorem dX12_likely_54 : decode cX12_likely 54 = .ok (.iload_n 1, 1) := by decide +kernel
theorem dX12_likely_55 : decode cX12_likely 55 = .ok (.aload_n 0, 1) := by decide +kernel
theorem dX12_likely_56 : decode cX12_likely 56 = .ok (.getfield 13, 3) := by decide +kernel
theorem dX12_likely_59 : decode cX12_likely 59 = .ok (.bipush 8, 2) := by decide +kernel
theorem dX12_likely_61 : decode cX12_likely 61 = .ok (.iload_n 1, 1) := by decide +kernel
theorem dX12_likely_62 : decode cX12_likely 62 = .ok (.iadd, 1) := by decide +kernel
theorem dX12_likely_63 : decode cX12_likely 63 = .ok (.iaload, 1) := by decide +kernel
theorem dX12_likely_64 : decode cX12_likely 64 = .ok (.iload 4, 2) := by decide +kernel
theorem dX12_likely_66 : decode cX12_likely 66 = .ok (.invokevirtual 219, 3) := by decide +kernel
theorem dX12_likely_69 : decode cX12_likely 69 = .ok (.iastore, 1) := by decide +kernel
theorem dX12_likely_70 : decode cX12_likely 70 = .ok (.iconst 0, 1) := by decide +kernel
theorem dX12_likely_71 : decode cX12_likely 71 = .ok (.istore 5, 2) := by decide +kernel
theorem dX12_likely_73 : decode cX12_likely 73 = .ok (.iload 5, 2) := by decide +kernel
theorem dX12_likely_75 : decode cX12_likely 75 = .ok (.bipush 9, 2) := by decide +kernel
theorem dX12_likely_77 : decode cX12_likely 77 = .ok (.if_icmp .ge 46, 3) := by decide +kernel
theorem dX12_likely_80 : decode cX12_likely 80 = .ok (.aload_n 0, 1) := by decide +kernel
theorem dX12_likely_81 : decode cX12_likely 81 = .ok (.getfield 13, 3) := by decide +kernel
theorem dX12_likely_84 : decode cX12_likely 84 = .ok (.bipush 14, 2) := by decide +kernel
theorem dX12_likely_86 : decode cX12_likely 86 = .ok (.iload_n 1, 1) := by decide +kernel
theorem dX12_likely_87 : decode cX12_likely 87 = .ok (.iadd, 1) := by decide +kernel
theorem dX12_likely_88 : decode cX12_likely 88 = .ok (.iaload, 1) := by decide +kernel
theorem dX12_likely_89 : decode cX12_likely 89 = .ok (.iload 5, 2) := by decide +kernel
theorem dX12_likely_91 : decode cX12_likely 91 = .ok (.invokestatic 197, 3) := by decide +kernel
theorem dX12_likely_94 : decode cX12_likely 94 = .ok (.ifCond .eq 23, 3) := by decide +kernel
theorem dX12_likely_97 : decode cX12_likely 97 = .ok (.aload_n 0, 1) := by decide +kernel
theorem dX12_likely_98 : decode cX12_likely 98 = .ok (.getfield 126, 3) := by decide +kernel
theorem dX12_likely_101 : decode cX12_likely 101 = .ok (.iload_n 3, 1) := by decide +kernel
theorem dX12_likely_102 : decode cX12_likely 102 = .ok (.aload_n 0, 1) := by decide +kernel
theorem dX12_likely_103 : decode cX12_likely 103 = .ok (.iload_n 1, 1) := by decide +kernel
theorem dX12_likely_104 : decode cX12_likely 104 = .ok (.iload 5, 2) := by decide +kernel
theorem dX12_likely_106 : decode cX12_likely 106 = .ok (.iload 4, 2) := by decide +kernel
theorem dX12_likely_108 : decode cX12_likely 108 = .ok (.iload_n 3, 1) := by decide +kernel
theorem dX12_likely_109 : decode cX12_likely 109 = .ok (.iadd, 1) := by decide +kernel
theorem dX12_likely_110 : decode cX12_likely 110 = .ok (.invokevirtual 219, 3) := by decide +kernel
theorem dX12_likely_113 : decode cX12_likely 113 = .ok (.iastore, 1) := by decide +kernel
theorem dX12_likely_114 : decode cX12_likely 114 = .ok (.iinc 3 1, 3) := by decide +kernel
theorem dX12_likely_117 : decode cX12_likely 117 = .ok (.iinc 5 1, 3) := by decide +kernel
theorem dX12_likely_120 : decode cX12_likely 120 = .ok (.goto (-47), 3) := by decide +kernel
theorem dX12_likely_123 : decode cX12_likely 123 = .ok (.iconst 0, 1) := by decide +kernel
theorem dX12_likely_124 : decode cX12_likely 124 = .ok (.istore 5, 2) := by decide +kernel
theorem dX12_likely_126 : decode cX12_likely 126 = .ok (.iload 5, 2) := by decide +kernel
theorem dX12_likely_128 : decode cX12_likely 128 = .ok (.bipush 10, 2) := by decide +kernel
theorem dX12_likely_130 : decode cX12_likely 130 = .ok (.if_icmp .ge 28, 3) := by decide +kernel
theorem dX12_likely_133 : decode cX12_likely 133 = .ok (.aload_n 0, 1) := by decide +kernel
theorem dX12_likely_134 : decode cX12_likely 134 = .ok (.getfield 123, 3) := by decide +kernel
theorem dX12_likely_137 : decode cX12_likely 137 = .ok (.iload 5, 2) := by decide +kernel
theorem dX12_likely_139 : decode cX12_likely 139 = .ok (.iload 5, 2) := by decide +kernel
theorem dX12_likely_141 : decode cX12_likely 141 = .ok (.ifCond .ne 9, 3) := by decide +kernel
theorem dX12_likely_144 : decode cX12_likely 144 = .ok (.ldc2_w 480, 3) := by decide +kernel
theorem dX12_likely_147 : decode cX12_likely 147 = .ok (.goto 4, 3) := by decide +kernel
theorem dX12_likely_150 : decode cX12_likely 150 = .ok (.lconst 0, 1) := by decide +kernel
theorem dX12_likely_151 : decode cX12_likely 151 = .ok (.lastore, 1) := by decide +kernel
theorem dX12_likely_152 : decode cX12_likely 152 = .ok (.iinc 5 1, 3) := by decide +kernel
theorem dX12_likely_155 : decode cX12_likely 155 = .ok (.goto (-29), 3) := by decide +kernel
theorem dX12_likely_158 : decode cX12_likely 158 = .ok (.iconst 0, 1) := by decide +kernel
theorem dX12_likely_159 : decode cX12_likely 159 = .ok (.istore 5, 2) := by decide +kernel
theorem dX12_likely_161 : decode cX12_likely 161 = .ok (.iload 5, 2) := by decide +kernel
theorem dX12_likely_163 : decode cX12_likely 163 = .ok (.iload_n 2, 1) := by decide +kernel
theorem dX12_likely_164 : decode cX12_likely 164 = .ok (.if_icmp .ge 86, 3) := by decide +kernel
theorem dX12_likely_167 : decode cX12_likely 167 = .ok (.iload_n 3, 1) := by decide +kernel
theorem dX12_likely_168 : decode cX12_likely 168 = .ok (.iconst 1, 1) := by decide +kernel
theorem dX12_likely_169 : decode cX12_likely 169 = .ok (.isub, 1) := by decide +kernel
theorem dX12_likely_170 : decode cX12_likely 170 = .ok (.istore 6, 2) := by decide +kernel
theorem dX12_likely_172 : decode cX12_likely 172 = .ok (.iload 6, 2) := by decide +kernel
theorem dX12_likely_174 : decode cX12_likely 174 = .ok (.ifCond .lt 70, 3) := by decide +kernel
theorem dX12_likely_177 : decode cX12_likely 177 = .ok (.aload_n 0, 1) := by decide +kernel
theorem dX12_likely_178 : decode cX12_likely 178 = .ok (.getfield 123, 3) := by decide +kernel
theorem dX12_likely_181 : decode cX12_likely 181 = .ok (.iload 6, 2) := by decide +kernel
theorem dX12_likely_183 : decode cX12_likely 183 = .ok (.laload, 1) := by decide +kernel
theorem dX12_likely_184 : decode cX12_likely 184 = .ok (.lstore 7, 2) := by decide +kernel
theorem dX12_likely_186 : decode cX12_likely 186 = .ok (.aload_n 0, 1) := by decide +kernel
theorem dX12_likely_187 : decode cX12_likely 187 = .ok (.getfield 123, 3) := by decide +kernel
theorem dX12_likely_190 : decode cX12_likely 190 = .ok (.iload 6, 2) := by decide +kernel
theorem dX12_likely_192 : decode cX12_likely 192 = .ok (.lload 7, 2) := by decide +kernel
theorem dX12_likely_194 : decode cX12_likely 194 = .ok (.bipush 10, 2) := by decide +kernel
theorem dX12_likely_196 : decode cX12_likely 196 = .ok (.aload_n 0, 1) := by decide +kernel
theorem dX12_likely_197 : decode cX12_likely 197 = .ok (.getfield 126, 3) := by decide +kernel
theorem dX12_likely_200 : decode cX12_likely 200 = .ok (.iload 6, 2) := by decide +kernel
theorem dX12_likely_202 : decode cX12_likely 202 = .ok (.iaload, 1) := by decide +kernel
theorem dX12_likely_203 : decode cX12_likely 203 = .ok (.isub, 1) := by decide +kernel
theorem dX12_likely_204 : decode cX12_likely 204 = .ok (.i2l, 1) := by decide +kernel
theorem dX12_likely_205 : decode cX12_likely 205 = .ok (.lmul, 1) := by decide +kernel
theorem dX12_likely_206 : decode cX12_likely 206 = .ok (.ldc2_w 242, 3) := by decide +kernel
theorem dX12_likely_209 : decode cX12_likely 209 = .ok (.ldiv, 1) := by decide +kernel
theorem dX12_likely_210 : decode cX12_likely 210 = .ok (.lastore, 1) := by decide +kernel
theorem dX12_likely_211 : decode cX12_likely 211 = .ok (.aload_n 0, 1) := by decide +kernel
theorem dX12_likely_212 : decode cX12_likely 212 = .ok (.getfield 123, 3) := by decide +kernel
theorem dX12_likely_215 : decode cX12_likely 215 = .ok (.iload 6, 2) := by decide +kernel
theorem dX12_likely_217 : decode cX12_likely 217 = .ok (.iconst 1, 1) := by decide +kernel
theorem dX12_likely_218 : decode cX12_likely 218 = .ok (.iadd, 1) := by decide +kernel
theorem dX12_likely_219 : decode cX12_likely 219 = .ok (.dup2, 1) := by decide +kernel
theorem dX12_likely_220 : decode cX12_likely 220 = .ok (.laload, 1) := by decide +kernel
theorem dX12_likely_221 : decode cX12_likely 221 = .ok (.lload 7, 2) := by decide +kernel
theorem dX12_likely_223 : decode cX12_likely 223 = .ok (.aload_n 0, 1) := by decide +kernel
theorem dX12_likely_224 : decode cX12_likely 224 = .ok (.getfield 126, 3) := by decide +kernel
theorem dX12_likely_227 : decode cX12_likely 227 = .ok (.iload 6, 2) := by decide +kernel
theorem dX12_likely_229 : decode cX12_likely 229 = .ok (.iaload, 1) := by decide +kernel
theorem dX12_likely_230 : decode cX12_likely 230 = .ok (.i2l, 1) := by decide +kernel
theorem dX12_likely_231 : decode cX12_likely 231 = .ok (.lmul, 1) := by decide +kernel
theorem dX12_likely_232 : decode cX12_likely 232 = .ok (.ldc2_w 242, 3) := by decide +kernel
theorem dX12_likely_235 : decode cX12_likely 235 = .ok (.ldiv, 1) := by decide +kernel
theorem dX12_likely_236 : decode cX12_likely 236 = .ok (.ladd, 1) := by decide +kernel
theorem dX12_likely_237 : decode cX12_likely 237 = .ok (.lastore, 1) := by decide +kernel
theorem dX12_likely_238 : decode cX12_likely 238 = .ok (.iinc 6 (-1), 3) := by decide +kernel
theorem dX12_likely_241 : decode cX12_likely 241 = .ok (.goto (-69), 3) := by decide +kernel
theorem dX12_likely_244 : decode cX12_likely 244 = .ok (.iinc 5 1, 3) := by decide +kernel
theorem dX12_likely_247 : decode cX12_likely 247 = .ok (.goto (-86), 3) := by decide +kernel
theorem dX12_likely_250 : decode cX12_likely 250 = .ok (.lconst 0, 1) := by decide +kernel
theorem dX12_likely_251 : decode cX12_likely 251 = .ok (.lstore 5, 2) := by decide +kernel
theorem dX12_likely_253 : decode cX12_likely 253 = .ok (.iconst 0, 1) := by decide +kernel
theorem dX12_likely_254 : decode cX12_likely 254 = .ok (.istore 7, 2) := by decide +kernel
theorem dX12_likely_256 : decode cX12_likely 256 = .ok (.iload 7, 2) := by decide +kernel
theorem dX12_likely_258 : decode cX12_likely 258 = .ok (.iload_n 3, 1) := by decide +kernel
theorem dX12_likely_259 : decode cX12_likely 259 = .ok (.if_icmp .ge 21, 3) := by decide +kernel
theorem dX12_likely_262 : decode cX12_likely 262 = .ok (.lload 5, 2) := by decide +kernel
theorem dX12_likely_264 : decode cX12_likely 264 = .ok (.aload_n 0, 1) := by decide +kernel
theorem dX12_likely_265 : decode cX12_likely 265 = .ok (.getfield 123, 3) := by decide +kernel
theorem dX12_likely_268 : decode cX12_likely 268 = .ok (.iload 7, 2) := by decide +kernel
theorem dX12_likely_270 : decode cX12_likely 270 = .ok (.laload, 1) := by decide +kernel
theorem dX12_likely_271 : decode cX12_likely 271 = .ok (.ladd, 1) := by decide +kernel
theorem dX12_likely_272 : decode cX12_likely 272 = .ok (.lstore 5, 2) := by decide +kernel
theorem dX12_likely_274 : decode cX12_likely 274 = .ok (.iinc 7 1, 3) := by decide +kernel
theorem dX12_likely_277 : decode cX12_likely 277 = .ok (.goto (-21), 3) := by decide +kernel
theorem dX12_likely_280 : decode cX12_likely 280 = .ok (.lload 5, 2) := by decide +kernel
theorem dX12_likely_282 : decode cX12_likely 282 = .ok (.lreturn, 1) := by decide +kernel
theorem dX12_seen_0 : decode cX12_seen 0 = .ok (.aload_n 0, 1) := by decide +kernel
theorem dX12_seen_1 : decode cX12_seen 1 = .ok (.iconst 0, 1) := by decide +kernel
theorem dX12_seen_2 : decode cX12_seen 2 = .ok (.putfield 161, 3) := by decide +kernel
theorem dX12_seen_5 : decode cX12_seen 5 = .ok (.iload_n 1, 1) := by decide +kernel
theorem dX12_seen_6 : decode cX12_seen 6 = .ok (.i2l, 1) := by decide +kernel
theorem dX12_seen_7 : decode cX12_seen 7 = .ok (.lconst 0, 1) := by decide +kernel
theorem dX12_seen_8 : decode cX12_seen 8 = .ok (.ldc2_w 204, 3) := by decide +kernel
theorem dX12_seen_11 : decode cX12_seen 11 = .ok (.invokestatic 181, 3) := by decide +kernel
theorem dX12_seen_14 : decode cX12_seen 14 = .ok (.ifCond .ne 9, 3) := by decide +kernel
theorem dX12_seen_17 : decode cX12_seen 17 = .ok (.aload_n 0, 1) := by decide +kernel
theorem dX12_seen_18 : decode cX12_seen 18 = .ok (.iconst (-1), 1) := by decide +kernel
theorem dX12_seen_19 : decode cX12_seen 19 = .ok (.invokevirtual 170, 3) := by decide +kernel
theorem dX12_seen_22 : decode cX12_seen 22 = .ok (.ireturn, 1) := by decide +kernel
theorem dX12_seen_23 : decode cX12_seen 23 = .ok (.aload_n 0, 1) := by decide +kernel
theorem dX12_seen_24 : decode cX12_seen 24 = .ok (.getfield 13, 3) := by decide +kernel
theorem dX12_seen_27 : decode cX12_seen 27 = .ok (.iconst 2, 1) := by decide +kernel
theorem dX12_seen_28 : decode cX12_seen 28 = .ok (.iaload, 1) := by decide +kernel
theorem dX12_seen_29 : decode cX12_seen 29 = .ok (.istore_n 2, 1) := by decide +kernel
theorem dX12_seen_30 : decode cX12_seen 30 = .ok (.iload_n 2, 1) := by decide +kernel
theorem dX12_seen_31 : decode cX12_seen 31 = .ok (.bipush 8, 2) := by decide +kernel
theorem dX12_seen_33 : decode cX12_seen 33 = .ok (.if_icmp .ne 10, 3) := by decide +kernel
theorem dX12_seen_36 : decode cX12_seen 36 = .ok (.aload_n 0, 1) := by decide +kernel
theorem dX12_seen_37 : decode cX12_seen 37 = .ok (.bipush (-5), 2) := by decide +kernel
theorem dX12_seen_39 : decode cX12_seen 39 = .ok (.invokevirtual 170, 3) := by decide +kernel
theorem dX12_seen_42 : decode cX12_seen 42 = .ok (.ireturn, 1) := by decide +kernel
theorem dX12_seen_43 : decode cX12_seen 43 = .ok (.aload_n 0, 1) := by decide +kernel
theorem dX12_seen_44 : decode cX12_seen 44 = .ok (.getfield 13, 3) := by decide +kernel
theorem dX12_seen_47 : decode cX12_seen 47 = .ok (.bipush 41, 2) := by decide +kernel
theorem dX12_seen_49 : decode cX12_seen 49 = .ok (.iload_n 2, 1) := by decide +kernel
theorem dX12_seen_50 : decode cX12_seen 50 = .ok (.iadd, 1) := by decide +kernel
theorem dX12_seen_51 : decode cX12_seen 51 = .ok (.iload_n 1, 1) := by decide +kernel
theorem dX12_seen_52 : decode cX12_seen 52 = .ok (.iastore, 1) := by decide +kernel
theorem dX12_seen_53 : decode cX12_seen 53 = .ok (.aload_n 0, 1) := by decide +kernel
theorem dX12_seen_54 : decode cX12_seen 54 = .ok (.getfield 13, 3) := by decide +kernel
theorem dX12_seen_57 : decode cX12_seen 57 = .ok (.iconst 2, 1) := by decide +kernel
theorem dX12_seen_58 : decode cX12_seen 58 = .ok (.dup2, 1) := by decide +kernel
theorem dX12_seen_59 : decode cX12_seen 59 = .ok (.iaload, 1) := by decide +kernel
theorem dX12_seen_60 : decode cX12_seen 60 = .ok (.iconst 1, 1) := by decide +kernel
theorem dX12_seen_61 : decode cX12_seen 61 = .ok (.iadd, 1) := by decide +kernel
theorem dX12_seen_62 : decode cX12_seen 62 = .ok (.iastore, 1) := by decide +kernel
theorem dX12_seen_63 : decode cX12_seen 63 = .ok (.aload_n 0, 1) := by decide +kernel
theorem dX12_seen_64 : decode cX12_seen 64 = .ok (.iload_n 2, 1) := by decide +kernel
theorem dX12_seen_65 : decode cX12_seen 65 = .ok (.iconst 1, 1) := by decide +kernel
theorem dX12_seen_66 : decode cX12_seen 66 = .ok (.iadd, 1) := by decide +kernel
theorem dX12_seen_67 : decode cX12_seen 67 = .ok (.invokevirtual 170, 3) := by decide +kernel
theorem dX12_seen_70 : decode cX12_seen 70 = .ok (.ireturn, 1) := by decide +kernel
theorem dX12_forget_0 : decode cX12_forget 0 = .ok (.aload_n 0, 1) := by decide +kernel
theorem dX12_forget_1 : decode cX12_forget 1 = .ok (.iconst 0, 1) := by decide +kernel
theorem dX12_forget_2 : decode cX12_forget 2 = .ok (.putfield 161, 3) := by decide +kernel
theorem dX12_forget_5 : decode cX12_forget 5 = .ok (.aload_n 0, 1) := by decide +kernel
theorem dX12_forget_6 : decode cX12_forget 6 = .ok (.getfield 13, 3) := by decide +kernel
theorem dX12_forget_9 : decode cX12_forget 9 = .ok (.iconst 2, 1) := by decide +kernel
theorem dX12_forget_10 : decode cX12_forget 10 = .ok (.iaload, 1) := by decide +kernel
theorem dX12_forget_11 : decode cX12_forget 11 = .ok (.istore_n 1, 1) := by decide +kernel
theorem dX12_forget_12 : decode cX12_forget 12 = .ok (.aload_n 0, 1) := by decide +kernel
theorem dX12_forget_13 : decode cX12_forget 13 = .ok (.getfield 13, 3) := by decide +kernel
theorem dX12_forget_16 : decode cX12_forget 16 = .ok (.iconst 2, 1) := by decide +kernel
theorem dX12_forget_17 : decode cX12_forget 17 = .ok (.iconst 0, 1) := by decide +kernel
theorem dX12_forget_18 : decode cX12_forget 18 = .ok (.iastore, 1) := by decide +kernel
theorem dX12_forget_19 : decode cX12_forget 19 = .ok (.iload_n 1, 1) := by decide +kernel
theorem dX12_forget_20 : decode cX12_forget 20 = .ok (.ireturn, 1) := by decide +kernel
theorem dX12_livesThatCan_0 : decode cX12_livesThatCan 0 = .ok (.iconst 0, 1) := by decide +kernel
theorem dX12_livesThatCan_1 : decode cX12_livesThatCan 1 = .ok (.istore_n 2, 1) := by decide +kernel
theorem dX12_livesThatCan_2 : decode cX12_livesThatCan 2 = .ok (.iconst 0, 1) := by decide +kernel
theorem dX12_livesThatCan_3 : decode cX12_livesThatCan 3 = .ok (.istore_n 3, 1) := by decide +kernel
theorem dX12_livesThatCan_4 : decode cX12_livesThatCan 4 = .ok (.iload_n 3, 1) := by decide +kernel
theorem dX12_livesThatCan_5 : decode cX12_livesThatCan 5 = .ok (.bipush 9, 2) := by decide +kernel
theorem dX12_livesThatCan_7 : decode cX12_livesThatCan 7 = .ok (.if_icmp .ge 85, 3) := by decide +kernel
theorem dX12_livesThatCan_10 : decode cX12_livesThatCan 10 = .ok (.iconst 1, 1) := by decide +kernel
theorem dX12_livesThatCan_11 : decode cX12_livesThatCan 11 = .ok (.istore 4, 2) := by decide +kernel
theorem dX12_livesThatCan_13 : decode cX12_livesThatCan 13 = .ok (.iconst 0, 1) := by decide +kernel
theorem dX12_livesThatCan_14 : decode cX12_livesThatCan 14 = .ok (.istore 5, 2) := by decide +kernel
theorem dX12_livesThatCan_16 : decode cX12_livesThatCan 16 = .ok (.iload 5, 2) := by decide +kernel
theorem dX12_livesThatCan_18 : decode cX12_livesThatCan 18 = .ok (.aload_n 0, 1) := by decide +kernel
theorem dX12_livesThatCan_19 : decode cX12_livesThatCan 19 = .ok (.getfield 13, 3) := by decide +kernel
theorem dX12_livesThatCan_22 : decode cX12_livesThatCan 22 = .ok (.iconst 2, 1) := by decide +kernel
theorem dX12_livesThatCan_23 : decode cX12_livesThatCan 23 = .ok (.iaload, 1) := by decide +kernel
theorem dX12_livesThatCan_24 : decode cX12_livesThatCan 24 = .ok (.if_icmp .ge 47, 3) := by decide +kernel
theorem dX12_livesThatCan_27 : decode cX12_livesThatCan 27 = .ok (.iload 4, 2) := by decide +kernel
theorem dX12_livesThatCan_29 : decode cX12_livesThatCan 29 = .ok (.ifCond .eq 42, 3) := by decide +kernel
theorem dX12_livesThatCan_32 : decode cX12_livesThatCan 32 = .ok (.aload_n 0, 1) := by decide +kernel
theorem dX12_livesThatCan_33 : decode cX12_livesThatCan 33 = .ok (.iload_n 1, 1) := by decide +kernel
theorem dX12_livesThatCan_34 : decode cX12_livesThatCan 34 = .ok (.iload_n 3, 1) := by decide +kernel
theorem dX12_livesThatCan_35 : decode cX12_livesThatCan 35 = .ok (.aload_n 0, 1) := by decide +kernel
theorem dX12_livesThatCan_36 : decode cX12_livesThatCan 36 = .ok (.iload_n 1, 1) := by decide +kernel
theorem dX12_livesThatCan_37 : decode cX12_livesThatCan 37 = .ok (.invokevirtual 213, 3) := by decide +kernel
theorem dX12_livesThatCan_40 : decode cX12_livesThatCan 40 = .ok (.iload 5, 2) := by decide +kernel
theorem dX12_livesThatCan_42 : decode cX12_livesThatCan 42 = .ok (.invokevirtual 222, 3) := by decide +kernel
theorem dX12_livesThatCan_45 : decode cX12_livesThatCan 45 = .ok (.aload_n 0, 1) := by decide +kernel
theorem dX12_livesThatCan_46 : decode cX12_livesThatCan 46 = .ok (.getfield 13, 3) := by decide +kernel
theorem dX12_livesThatCan_49 : decode cX12_livesThatCan 49 = .ok (.bipush 41, 2) := by decide +kernel
theorem dX12_livesThatCan_51 : decode cX12_livesThatCan 51 = .ok (.iload 5, 2) := by decide +kernel
theorem dX12_livesThatCan_53 : decode cX12_livesThatCan 53 = .ok (.iadd, 1) := by decide +kernel
theorem dX12_livesThatCan_54 : decode cX12_livesThatCan 54 = .ok (.iaload, 1) := by decide +kernel
theorem dX12_livesThatCan_55 : decode cX12_livesThatCan 55 = .ok (.if_icmp .ne 7, 3) := by decide +kernel
theorem dX12_livesThatCan_58 : decode cX12_livesThatCan 58 = .ok (.iconst 1, 1) := by decide +kernel
theorem dX12_livesThatCan_59 : decode cX12_livesThatCan 59 = .ok (.goto 4, 3) := by decide +kernel
theorem dX12_livesThatCan_62 : decode cX12_livesThatCan 62 = .ok (.iconst 0, 1) := by decide +kernel
theorem dX12_livesThatCan_63 : decode cX12_livesThatCan 63 = .ok (.istore 4, 2) := by decide +kernel
theorem dX12_livesThatCan_65 : decode cX12_livesThatCan 65 = .ok (.iinc 5 1, 3) := by decide +kernel
theorem dX12_livesThatCan_68 : decode cX12_livesThatCan 68 = .ok (.goto (-52), 3) := by decide +kernel
theorem dX12_livesThatCan_71 : decode cX12_livesThatCan 71 = .ok (.iload_n 2, 1) := by decide +kernel
theorem dX12_livesThatCan_72 : decode cX12_livesThatCan 72 = .ok (.iload 4, 2) := by decide +kernel
theorem dX12_livesThatCan_74 : decode cX12_livesThatCan 74 = .ok (.ifCond .eq 9, 3) := by decide +kernel
theorem dX12_livesThatCan_77 : decode cX12_livesThatCan 77 = .ok (.iconst 1, 1) := by decide +kernel
theorem dX12_livesThatCan_78 : decode cX12_livesThatCan 78 = .ok (.iload_n 3, 1) := by decide +kernel
theorem dX12_livesThatCan_79 : decode cX12_livesThatCan 79 = .ok (.ishl, 1) := by decide +kernel
theorem dX12_livesThatCan_80 : decode cX12_livesThatCan 80 = .ok (.goto 4, 3) := by decide +kernel
theorem dX12_livesThatCan_83 : decode cX12_livesThatCan 83 = .ok (.iconst 0, 1) := by decide +kernel
theorem dX12_livesThatCan_84 : decode cX12_livesThatCan 84 = .ok (.ior, 1) := by decide +kernel
theorem dX12_livesThatCan_85 : decode cX12_livesThatCan 85 = .ok (.istore_n 2, 1) := by decide +kernel
theorem dX12_livesThatCan_86 : decode cX12_livesThatCan 86 = .ok (.iinc 3 1, 3) := by decide +kernel
theorem dX12_livesThatCan_89 : decode cX12_livesThatCan 89 = .ok (.goto (-85), 3) := by decide +kernel
theorem dX12_livesThatCan_92 : decode cX12_livesThatCan 92 = .ok (.iload_n 2, 1) := by decide +kernel
theorem dX12_livesThatCan_93 : decode cX12_livesThatCan 93 = .ok (.ireturn, 1) := by decide +kernel
theorem dX12_canBe_0 : decode cX12_canBe 0 = .ok (.aload_n 0, 1) := by decide +kernel
theorem dX12_canBe_1 : decode cX12_canBe 1 = .ok (.iconst 0, 1) := by decide +kernel
theorem dX12_canBe_2 : decode cX12_canBe 2 = .ok (.putfield 161, 3) := by decide +kernel
theorem dX12_canBe_5 : decode cX12_canBe 5 = .ok (.aload_n 0, 1) := by decide +kernel
theorem dX12_canBe_6 : decode cX12_canBe 6 = .ok (.iload_n 1, 1) := by decide +kernel
theorem dX12_canBe_7 : decode cX12_canBe 7 = .ok (.invokevirtual 210, 3) := by decide +kernel
theorem dX12_canBe_10 : decode cX12_canBe 10 = .ok (.ifCond .eq 11, 3) := by decide +kernel
theorem dX12_canBe_13 : decode cX12_canBe 13 = .ok (.aload_n 0, 1) := by decide +kernel
theorem dX12_canBe_14 : decode cX12_canBe 14 = .ok (.iload_n 1, 1) := by decide +kernel
theorem dX12_canBe_15 : decode cX12_canBe 15 = .ok (.invokevirtual 482, 3) := by decide +kernel
theorem dX12_canBe_18 : decode cX12_canBe 18 = .ok (.goto 4, 3) := by decide +kernel
theorem dX12_canBe_21 : decode cX12_canBe 21 = .ok (.iconst (-1), 1) := by decide +kernel
theorem dX12_canBe_22 : decode cX12_canBe 22 = .ok (.ireturn, 1) := by decide +kernel
theorem dX12_look_0 : decode cX12_look 0 = .ok (.aload_n 0, 1) := by decide +kernel
theorem dX12_look_1 : decode cX12_look 1 = .ok (.iconst 0, 1) := by decide +kernel
theorem dX12_look_2 : decode cX12_look 2 = .ok (.putfield 161, 3) := by decide +kernel
theorem dX12_look_5 : decode cX12_look 5 = .ok (.aload_n 0, 1) := by decide +kernel
theorem dX12_look_6 : decode cX12_look 6 = .ok (.iload_n 1, 1) := by decide +kernel
theorem dX12_look_7 : decode cX12_look 7 = .ok (.invokevirtual 210, 3) := by decide +kernel
theorem dX12_look_10 : decode cX12_look 10 = .ok (.ifCond .eq 13, 3) := by decide +kernel
theorem dX12_look_13 : decode cX12_look 13 = .ok (.iload_n 2, 1) := by decide +kernel
theorem dX12_look_14 : decode cX12_look 14 = .ok (.i2l, 1) := by decide +kernel
theorem dX12_look_15 : decode cX12_look 15 = .ok (.lconst 0, 1) := by decide +kernel
theorem dX12_look_16 : decode cX12_look 16 = .ok (.lconst 1, 1) := by decide +kernel
theorem dX12_look_17 : decode cX12_look 17 = .ok (.invokestatic 181, 3) := by decide +kernel
theorem dX12_look_20 : decode cX12_look 20 = .ok (.ifCond .ne 5, 3) := by decide +kernel
theorem dX12_look_23 : decode cX12_look 23 = .ok (.iconst (-1), 1) := by decide +kernel
theorem dX12_look_24 : decode cX12_look 24 = .ok (.ireturn, 1) := by decide +kernel
theorem dX12_look_25 : decode cX12_look 25 = .ok (.aload_n 0, 1) := by decide +kernel
theorem dX12_look_26 : decode cX12_look 26 = .ok (.iload_n 1, 1) := by decide +kernel
theorem dX12_look_27 : decode cX12_look 27 = .ok (.invokevirtual 482, 3) := by decide +kernel
theorem dX12_look_30 : decode cX12_look 30 = .ok (.istore_n 3, 1) := by decide +kernel
theorem dX12_look_31 : decode cX12_look 31 = .ok (.ldc_w 485, 3) := by decide +kernel
theorem dX12_look_34 : decode cX12_look 34 = .ok (.istore 4, 2) := by decide +kernel
theorem dX12_look_36 : decode cX12_look 36 = .ok (.iconst (-1), 1) := by decide +kernel
theorem dX12_look_37 : decode cX12_look 37 = .ok (.istore 5, 2) := by decide +kernel
theorem dX12_look_39 : decode cX12_look 39 = .ok (.iconst 0, 1) := by decide +kernel
theorem dX12_look_40 : decode cX12_look 40 = .ok (.istore 6, 2) := by decide +kernel
theorem dX12_look_42 : decode cX12_look 42 = .ok (.iload 6, 2) := by decide +kernel
theorem dX12_look_44 : decode cX12_look 44 = .ok (.bipush 10, 2) := by decide +kernel
theorem dX12_look_46 : decode cX12_look 46 = .ok (.if_icmp .ge 156, 3) := by decide +kernel
theorem dX12_look_49 : decode cX12_look 49 = .ok (.iconst 0, 1) := by decide +kernel
theorem dX12_look_50 : decode cX12_look 50 = .ok (.istore 7, 2) := by decide +kernel
theorem dX12_look_52 : decode cX12_look 52 = .ok (.iconst 0, 1) := by decide +kernel
theorem dX12_look_53 : decode cX12_look 53 = .ok (.istore 8, 2) := by decide +kernel
theorem dX12_look_55 : decode cX12_look 55 = .ok (.iload 8, 2) := by decide +kernel
theorem dX12_look_57 : decode cX12_look 57 = .ok (.bipush 10, 2) := by decide +kernel
theorem dX12_look_59 : decode cX12_look 59 = .ok (.if_icmp .ge 17, 3) := by decide +kernel
theorem dX12_look_62 : decode cX12_look 62 = .ok (.aload_n 0, 1) := by decide +kernel
theorem dX12_look_63 : decode cX12_look 63 = .ok (.getfield 129, 3) := by decide +kernel
theorem dX12_look_66 : decode cX12_look 66 = .ok (.iload 8, 2) := by decide +kernel
theorem dX12_look_68 : decode cX12_look 68 = .ok (.iconst 0, 1) := by decide +kernel
theorem dX12_look_69 : decode cX12_look 69 = .ok (.iastore, 1) := by decide +kernel
theorem dX12_look_70 : decode cX12_look 70 = .ok (.iinc 8 1, 3) := by decide +kernel
theorem dX12_look_73 : decode cX12_look 73 = .ok (.goto (-18), 3) := by decide +kernel
theorem dX12_look_76 : decode cX12_look 76 = .ok (.iconst 0, 1) := by decide +kernel
theorem dX12_look_77 : decode cX12_look 77 = .ok (.istore 8, 2) := by decide +kernel
theorem dX12_look_79 : decode cX12_look 79 = .ok (.iload 8, 2) := by decide +kernel
theorem dX12_look_81 : decode cX12_look 81 = .ok (.bipush 9, 2) := by decide +kernel
theorem dX12_look_83 : decode cX12_look 83 = .ok (.if_icmp .ge 71, 3) := by decide +kernel
theorem dX12_look_86 : decode cX12_look 86 = .ok (.iload_n 3, 1) := by decide +kernel
theorem dX12_look_87 : decode cX12_look 87 = .ok (.iload 8, 2) := by decide +kernel
theorem dX12_look_89 : decode cX12_look 89 = .ok (.invokestatic 197, 3) := by decide +kernel
theorem dX12_look_92 : decode cX12_look 92 = .ok (.ifCond .eq 56, 3) := by decide +kernel
theorem dX12_look_95 : decode cX12_look 95 = .ok (.aload_n 0, 1) := by decide +kernel
theorem dX12_look_96 : decode cX12_look 96 = .ok (.iload_n 1, 1) := by decide +kernel
theorem dX12_look_97 : decode cX12_look 97 = .ok (.iload 8, 2) := by decide +kernel
theorem dX12_look_99 : decode cX12_look 99 = .ok (.aload_n 0, 1) := by decide +kernel
theorem dX12_look_100 : decode cX12_look 100 = .ok (.iload_n 1, 1) := by decide +kernel
theorem dX12_look_101 : decode cX12_look 101 = .ok (.invokevirtual 213, 3) := by decide +kernel
theorem dX12_look_104 : decode cX12_look 104 = .ok (.iload 6, 2) := by decide +kernel
theorem dX12_look_106 : decode cX12_look 106 = .ok (.invokevirtual 222, 3) := by decide +kernel
theorem dX12_look_109 : decode cX12_look 109 = .ok (.istore 9, 2) := by decide +kernel
theorem dX12_look_111 : decode cX12_look 111 = .ok (.aload_n 0, 1) := by decide +kernel
theorem dX12_look_112 : decode cX12_look 112 = .ok (.getfield 129, 3) := by decide +kernel
theorem dX12_look_115 : decode cX12_look 115 = .ok (.iload 9, 2) := by decide +kernel
theorem dX12_look_117 : decode cX12_look 117 = .ok (.dup2, 1) := by decide +kernel
theorem dX12_look_118 : decode cX12_look 118 = .ok (.iaload, 1) := by decide +kernel
theorem dX12_look_119 : decode cX12_look 119 = .ok (.iconst 1, 1) := by decide +kernel
theorem dX12_look_120 : decode cX12_look 120 = .ok (.iadd, 1) := by decide +kernel
theorem dX12_look_121 : decode cX12_look 121 = .ok (.iastore, 1) := by decide +kernel
theorem dX12_look_122 : decode cX12_look 122 = .ok (.aload_n 0, 1) := by decide +kernel
theorem dX12_look_123 : decode cX12_look 123 = .ok (.getfield 129, 3) := by decide +kernel
theorem dX12_look_126 : decode cX12_look 126 = .ok (.iload 9, 2) := by decide +kernel
theorem dX12_look_128 : decode cX12_look 128 = .ok (.iaload, 1) := by decide +kernel
theorem dX12_look_129 : decode cX12_look 129 = .ok (.iload 7, 2) := by decide +kernel
theorem dX12_look_131 : decode cX12_look 131 = .ok (.if_icmp .le 13, 3) := by decide +kernel
theorem dX12_look_134 : decode cX12_look 134 = .ok (.aload_n 0, 1) := by decide +kernel
theorem dX12_look_135 : decode cX12_look 135 = .ok (.getfield 129, 3) := by decide +kernel
theorem dX12_look_138 : decode cX12_look 138 = .ok (.iload 9, 2) := by decide +kernel
theorem dX12_look_140 : decode cX12_look 140 = .ok (.iaload, 1) := by decide +kernel
theorem dX12_look_141 : decode cX12_look 141 = .ok (.goto 5, 3) := by decide +kernel
theorem dX12_look_144 : decode cX12_look 144 = .ok (.iload 7, 2) := by decide +kernel
theorem dX12_look_146 : decode cX12_look 146 = .ok (.istore 7, 2) := by decide +kernel
theorem dX12_look_148 : decode cX12_look 148 = .ok (.iinc 8 1, 3) := by decide +kernel
theorem dX12_look_151 : decode cX12_look 151 = .ok (.goto (-72), 3) := by decide +kernel
theorem dX12_look_154 : decode cX12_look 154 = .ok (.iload 7, 2) := by decide +kernel
theorem dX12_look_156 : decode cX12_look 156 = .ok (.ifCond .le 15, 3) := by decide +kernel
theorem dX12_look_159 : decode cX12_look 159 = .ok (.iload 7, 2) := by decide +kernel
theorem dX12_look_161 : decode cX12_look 161 = .ok (.iload 4, 2) := by decide +kernel
theorem dX12_look_163 : decode cX12_look 163 = .ok (.if_icmp .ge 8, 3) := by decide +kernel
theorem dX12_look_166 : decode cX12_look 166 = .ok (.iload 6, 2) := by decide +kernel
theorem dX12_look_168 : decode cX12_look 168 = .ok (.goto 5, 3) := by decide +kernel
theorem dX12_look_171 : decode cX12_look 171 = .ok (.iload 5, 2) := by decide +kernel
theorem dX12_look_173 : decode cX12_look 173 = .ok (.istore 5, 2) := by decide +kernel
theorem dX12_look_175 : decode cX12_look 175 = .ok (.iload 7, 2) := by decide +kernel
theorem dX12_look_177 : decode cX12_look 177 = .ok (.ifCond .le 15, 3) := by decide +kernel
theorem dX12_look_180 : decode cX12_look 180 = .ok (.iload 7, 2) := by decide +kernel
theorem dX12_look_182 : decode cX12_look 182 = .ok (.iload 4, 2) := by decide +kernel
theorem dX12_look_184 : decode cX12_look 184 = .ok (.if_icmp .ge 8, 3) := by decide +kernel
theorem dX12_look_187 : decode cX12_look 187 = .ok (.iload 7, 2) := by decide +kernel
theorem dX12_look_189 : decode cX12_look 189 = .ok (.goto 5, 3) := by decide +kernel
theorem dX12_look_192 : decode cX12_look 192 = .ok (.iload 4, 2) := by decide +kernel
theorem dX12_look_194 : decode cX12_look 194 = .ok (.istore 4, 2) := by decide +kernel
theorem dX12_look_196 : decode cX12_look 196 = .ok (.iinc 6 1, 3) := by decide +kernel
theorem dX12_look_199 : decode cX12_look 199 = .ok (.goto (-157), 3) := by decide +kernel
theorem dX12_look_202 : decode cX12_look 202 = .ok (.iload 5, 2) := by decide +kernel
theorem dX12_look_204 : decode cX12_look 204 = .ok (.iconst (-1), 1) := by decide +kernel
theorem dX12_look_205 : decode cX12_look 205 = .ok (.if_icmp .eq 7, 3) := by decide +kernel
theorem dX12_look_208 : decode cX12_look 208 = .ok (.iload_n 2, 1) := by decide +kernel
theorem dX12_look_209 : decode cX12_look 209 = .ok (.ifCond .ne 8, 3) := by decide +kernel
theorem dX12_look_212 : decode cX12_look 212 = .ok (.iload 5, 2) := by decide +kernel
theorem dX12_look_214 : decode cX12_look 214 = .ok (.goto 5, 3) := by decide +kernel
theorem dX12_look_217 : decode cX12_look 217 = .ok (.iload 4, 2) := by decide +kernel
theorem dX12_look_219 : decode cX12_look 219 = .ok (.ireturn, 1) := by decide +kernel
theorem dX12_layDoing_0 : decode cX12_layDoing 0 = .ok (.iconst 0, 1) := by decide +kernel
theorem dX12_layDoing_1 : decode cX12_layDoing 1 = .ok (.istore_n 3, 1) := by decide +kernel
theorem dX12_layDoing_2 : decode cX12_layDoing 2 = .ok (.iload_n 3, 1) := by decide +kernel
theorem dX12_layDoing_3 : decode cX12_layDoing 3 = .ok (.sipush 4608, 3) := by decide +kernel
theorem dX12_layDoing_6 : decode cX12_layDoing 6 = .ok (.if_icmp .ge 16, 3) := by decide +kernel
theorem dX12_layDoing_9 : decode cX12_layDoing 9 = .ok (.aload_n 0, 1) := by decide +kernel
theorem dX12_layDoing_10 : decode cX12_layDoing 10 = .ok (.getfield 135, 3) := by decide +kernel
theorem dX12_layDoing_13 : decode cX12_layDoing 13 = .ok (.iload_n 3, 1) := by decide +kernel
theorem dX12_layDoing_14 : decode cX12_layDoing 14 = .ok (.iconst 0, 1) := by decide +kernel
theorem dX12_layDoing_15 : decode cX12_layDoing 15 = .ok (.bastore, 1) := by decide +kernel
theorem dX12_layDoing_16 : decode cX12_layDoing 16 = .ok (.iinc 3 1, 3) := by decide +kernel
theorem dX12_layDoing_19 : decode cX12_layDoing 19 = .ok (.goto (-17), 3) := by decide +kernel
theorem dX12_layDoing_22 : decode cX12_layDoing 22 = .ok (.iconst 0, 1) := by decide +kernel
theorem dX12_layDoing_23 : decode cX12_layDoing 23 = .ok (.istore_n 3, 1) := by decide +kernel
theorem dX12_layDoing_24 : decode cX12_layDoing 24 = .ok (.iload_n 3, 1) := by decide +kernel
theorem dX12_layDoing_25 : decode cX12_layDoing 25 = .ok (.sipush 512, 3) := by decide +kernel
theorem dX12_layDoing_28 : decode cX12_layDoing 28 = .ok (.if_icmp .ge 174, 3) := by decide +kernel
theorem dX12_layDoing_31 : decode cX12_layDoing 31 = .ok (.bipush 8, 2) := by decide +kernel
theorem dX12_layDoing_33 : decode cX12_layDoing 33 = .ok (.iload_n 3, 1) := by decide +kernel
theorem dX12_layDoing_34 : decode cX12_layDoing 34 = .ok (.invokestatic 190, 3) := by decide +kernel
theorem dX12_layDoing_37 : decode cX12_layDoing 37 = .ok (.isub, 1) := by decide +kernel
theorem dX12_layDoing_38 : decode cX12_layDoing 38 = .ok (.istore 4, 2) := by decide +kernel
theorem dX12_layDoing_40 : decode cX12_layDoing 40 = .ok (.iconst 0, 1) := by decide +kernel
theorem dX12_layDoing_41 : decode cX12_layDoing 41 = .ok (.istore 5, 2) := by decide +kernel
theorem dX12_layDoing_43 : decode cX12_layDoing 43 = .ok (.iload 5, 2) := by decide +kernel
theorem dX12_layDoing_45 : decode cX12_layDoing 45 = .ok (.bipush 9, 2) := by decide +kernel
theorem dX12_layDoing_47 : decode cX12_layDoing 47 = .ok (.if_icmp .ge 149, 3) := by decide +kernel
theorem dX12_layDoing_50 : decode cX12_layDoing 50 = .ok (.aload_n 0, 1) := by decide +kernel
theorem dX12_layDoing_51 : decode cX12_layDoing 51 = .ok (.getfield 132, 3) := by decide +kernel
theorem dX12_layDoing_54 : decode cX12_layDoing 54 = .ok (.bipush 9, 2) := by decide +kernel
theorem dX12_layDoing_56 : decode cX12_layDoing 56 = .ok (.iload_n 3, 1) := by decide +kernel
theorem dX12_layDoing_57 : decode cX12_layDoing 57 = .ok (.imul, 1) := by decide +kernel
theorem dX12_layDoing_58 : decode cX12_layDoing 58 = .ok (.iload 5, 2) := by decide +kernel
theorem dX12_layDoing_60 : decode cX12_layDoing 60 = .ok (.iadd, 1) := by decide +kernel
theorem dX12_layDoing_61 : decode cX12_layDoing 61 = .ok (.baload, 1) := by decide +kernel
theorem dX12_layDoing_62 : decode cX12_layDoing 62 = .ok (.ifCond .eq 128, 3) := by decide +kernel
theorem dX12_layDoing_65 : decode cX12_layDoing 65 = .ok (.aload_n 0, 1) := by decide +kernel
theorem dX12_layDoing_66 : decode cX12_layDoing 66 = .ok (.getfield 135, 3) := by decide +kernel
theorem dX12_layDoing_69 : decode cX12_layDoing 69 = .ok (.bipush 9, 2) := by decide +kernel
theorem dX12_layDoing_71 : decode cX12_layDoing 71 = .ok (.iload_n 3, 1) := by decide +kernel
theorem dX12_layDoing_72 : decode cX12_layDoing 72 = .ok (.imul, 1) := by decide +kernel
theorem dX12_layDoing_73 : decode cX12_layDoing 73 = .ok (.iload 5, 2) := by decide +kernel
theorem dX12_layDoing_75 : decode cX12_layDoing 75 = .ok (.iadd, 1) := by decide +kernel
theorem dX12_layDoing_76 : decode cX12_layDoing 76 = .ok (.aload_n 0, 1) := by decide +kernel
theorem dX12_layDoing_77 : decode cX12_layDoing 77 = .ok (.getfield 135, 3) := by decide +kernel
theorem dX12_layDoing_80 : decode cX12_layDoing 80 = .ok (.bipush 9, 2) := by decide +kernel
theorem dX12_layDoing_82 : decode cX12_layDoing 82 = .ok (.iload_n 3, 1) := by decide +kernel
theorem dX12_layDoing_83 : decode cX12_layDoing 83 = .ok (.imul, 1) := by decide +kernel
theorem dX12_layDoing_84 : decode cX12_layDoing 84 = .ok (.iload 5, 2) := by decide +kernel
theorem dX12_layDoing_86 : decode cX12_layDoing 86 = .ok (.iadd, 1) := by decide +kernel
theorem dX12_layDoing_87 : decode cX12_layDoing 87 = .ok (.baload, 1) := by decide +kernel
theorem dX12_layDoing_88 : decode cX12_layDoing 88 = .ok (.ifCond .ne 25, 3) := by decide +kernel
theorem dX12_layDoing_91 : decode cX12_layDoing 91 = .ok (.aload_n 0, 1) := by decide +kernel
theorem dX12_layDoing_92 : decode cX12_layDoing 92 = .ok (.iload_n 1, 1) := by decide +kernel
theorem dX12_layDoing_93 : decode cX12_layDoing 93 = .ok (.iload 5, 2) := by decide +kernel
theorem dX12_layDoing_95 : decode cX12_layDoing 95 = .ok (.iload 4, 2) := by decide +kernel
theorem dX12_layDoing_97 : decode cX12_layDoing 97 = .ok (.iload_n 2, 1) := by decide +kernel
theorem dX12_layDoing_98 : decode cX12_layDoing 98 = .ok (.invokevirtual 222, 3) := by decide +kernel
theorem dX12_layDoing_101 : decode cX12_layDoing 101 = .ok (.aload_n 0, 1) := by decide +kernel
theorem dX12_layDoing_102 : decode cX12_layDoing 102 = .ok (.getfield 13, 3) := by decide +kernel
theorem dX12_layDoing_105 : decode cX12_layDoing 105 = .ok (.bipush 41, 2) := by decide +kernel
theorem dX12_layDoing_107 : decode cX12_layDoing 107 = .ok (.iload_n 2, 1) := by decide +kernel
theorem dX12_layDoing_108 : decode cX12_layDoing 108 = .ok (.iadd, 1) := by decide +kernel
theorem dX12_layDoing_109 : decode cX12_layDoing 109 = .ok (.iaload, 1) := by decide +kernel
theorem dX12_layDoing_110 : decode cX12_layDoing 110 = .ok (.if_icmp .ne 7, 3) := by decide +kernel
theorem dX12_layDoing_113 : decode cX12_layDoing 113 = .ok (.iconst 1, 1) := by decide +kernel
theorem dX12_layDoing_114 : decode cX12_layDoing 114 = .ok (.goto 4, 3) := by decide +kernel
theorem dX12_layDoing_117 : decode cX12_layDoing 117 = .ok (.iconst 0, 1) := by decide +kernel
theorem dX12_layDoing_118 : decode cX12_layDoing 118 = .ok (.bastore, 1) := by decide +kernel
theorem dX12_layDoing_119 : decode cX12_layDoing 119 = .ok (.iconst 0, 1) := by decide +kernel
theorem dX12_layDoing_120 : decode cX12_layDoing 120 = .ok (.istore 6, 2) := by decide +kernel
theorem dX12_layDoing_122 : decode cX12_layDoing 122 = .ok (.iload 6, 2) := by decide +kernel
theorem dX12_layDoing_124 : decode cX12_layDoing 124 = .ok (.bipush 9, 2) := by decide +kernel
theorem dX12_layDoing_126 : decode cX12_layDoing 126 = .ok (.if_icmp .ge 64, 3) := by decide +kernel
theorem dX12_layDoing_129 : decode cX12_layDoing 129 = .ok (.iload_n 2, 1) := by decide +kernel
theorem dX12_layDoing_130 : decode cX12_layDoing 130 = .ok (.ifCond .le 60, 3) := by decide +kernel
theorem dX12_layDoing_133 : decode cX12_layDoing 133 = .ok (.iload_n 3, 1) := by decide +kernel
theorem dX12_layDoing_134 : decode cX12_layDoing 134 = .ok (.iload 6, 2) := by decide +kernel
theorem dX12_layDoing_136 : decode cX12_layDoing 136 = .ok (.invokestatic 197, 3) := by decide +kernel
theorem dX12_layDoing_139 : decode cX12_layDoing 139 = .ok (.ifCond .eq 45, 3) := by decide +kernel
theorem dX12_layDoing_142 : decode cX12_layDoing 142 = .ok (.aload_n 0, 1) := by decide +kernel
theorem dX12_layDoing_143 : decode cX12_layDoing 143 = .ok (.iload_n 1, 1) := by decide +kernel
theorem dX12_layDoing_144 : decode cX12_layDoing 144 = .ok (.iload 6, 2) := by decide +kernel
theorem dX12_layDoing_146 : decode cX12_layDoing 146 = .ok (.iload 4, 2) := by decide +kernel
theorem dX12_layDoing_148 : decode cX12_layDoing 148 = .ok (.iconst 1, 1) := by decide +kernel
theorem dX12_layDoing_149 : decode cX12_layDoing 149 = .ok (.iadd, 1) := by decide +kernel
theorem dX12_layDoing_150 : decode cX12_layDoing 150 = .ok (.iload_n 2, 1) := by decide +kernel
theorem dX12_layDoing_151 : decode cX12_layDoing 151 = .ok (.invokevirtual 222, 3) := by decide +kernel
theorem dX12_layDoing_154 : decode cX12_layDoing 154 = .ok (.aload_n 0, 1) := by decide +kernel
theorem dX12_layDoing_155 : decode cX12_layDoing 155 = .ok (.getfield 13, 3) := by decide +kernel
theorem dX12_layDoing_158 : decode cX12_layDoing 158 = .ok (.bipush 41, 2) := by decide +kernel
theorem dX12_layDoing_160 : decode cX12_layDoing 160 = .ok (.iload_n 2, 1) := by decide +kernel
theorem dX12_layDoing_161 : decode cX12_layDoing 161 = .ok (.iadd, 1) := by decide +kernel
theorem dX12_layDoing_162 : decode cX12_layDoing 162 = .ok (.iaload, 1) := by decide +kernel
theorem dX12_layDoing_163 : decode cX12_layDoing 163 = .ok (.if_icmp .ne 21, 3) := by decide +kernel
theorem dX12_layDoing_166 : decode cX12_layDoing 166 = .ok (.aload_n 0, 1) := by decide +kernel
theorem dX12_layDoing_167 : decode cX12_layDoing 167 = .ok (.getfield 135, 3) := by decide +kernel
theorem dX12_layDoing_170 : decode cX12_layDoing 170 = .ok (.bipush 9, 2) := by decide +kernel
theorem dX12_layDoing_172 : decode cX12_layDoing 172 = .ok (.iload_n 3, 1) := by decide +kernel
theorem dX12_layDoing_173 : decode cX12_layDoing 173 = .ok (.iconst 1, 1) := by decide +kernel
theorem dX12_layDoing_174 : decode cX12_layDoing 174 = .ok (.iload 6, 2) := by decide +kernel
theorem dX12_layDoing_176 : decode cX12_layDoing 176 = .ok (.ishl, 1) := by decide +kernel
theorem dX12_layDoing_177 : decode cX12_layDoing 177 = .ok (.isub, 1) := by decide +kernel
theorem dX12_layDoing_178 : decode cX12_layDoing 178 = .ok (.imul, 1) := by decide +kernel
theorem dX12_layDoing_179 : decode cX12_layDoing 179 = .ok (.iload 6, 2) := by decide +kernel
theorem dX12_layDoing_181 : decode cX12_layDoing 181 = .ok (.iadd, 1) := by decide +kernel
theorem dX12_layDoing_182 : decode cX12_layDoing 182 = .ok (.iconst 1, 1) := by decide +kernel
theorem dX12_layDoing_183 : decode cX12_layDoing 183 = .ok (.bastore, 1) := by decide +kernel
theorem dX12_layDoing_184 : decode cX12_layDoing 184 = .ok (.iinc 6 1, 3) := by decide +kernel
theorem dX12_layDoing_187 : decode cX12_layDoing 187 = .ok (.goto (-65), 3) := by decide +kernel
theorem dX12_layDoing_190 : decode cX12_layDoing 190 = .ok (.iinc 5 1, 3) := by decide +kernel
theorem dX12_layDoing_193 : decode cX12_layDoing 193 = .ok (.goto (-150), 3) := by decide +kernel
theorem dX12_layDoing_196 : decode cX12_layDoing 196 = .ok (.iinc 3 1, 3) := by decide +kernel
theorem dX12_layDoing_199 : decode cX12_layDoing 199 = .ok (.goto (-175), 3) := by decide +kernel
theorem dX12_layDoing_202 : decode cX12_layDoing 202 = .ok (.iconst 0, 1) := by decide +kernel
theorem dX12_layDoing_203 : decode cX12_layDoing 203 = .ok (.istore_n 3, 1) := by decide +kernel
theorem dX12_layDoing_204 : decode cX12_layDoing 204 = .ok (.iload_n 3, 1) := by decide +kernel
theorem dX12_layDoing_205 : decode cX12_layDoing 205 = .ok (.sipush 4608, 3) := by decide +kernel
theorem dX12_layDoing_208 : decode cX12_layDoing 208 = .ok (.if_icmp .ge 21, 3) := by decide +kernel
theorem dX12_layDoing_211 : decode cX12_layDoing 211 = .ok (.aload_n 0, 1) := by decide +kernel
theorem dX12_layDoing_212 : decode cX12_layDoing 212 = .ok (.getfield 132, 3) := by decide +kernel
theorem dX12_layDoing_215 : decode cX12_layDoing 215 = .ok (.iload_n 3, 1) := by decide +kernel
theorem dX12_layDoing_216 : decode cX12_layDoing 216 = .ok (.aload_n 0, 1) := by decide +kernel
theorem dX12_layDoing_217 : decode cX12_layDoing 217 = .ok (.getfield 135, 3) := by decide +kernel
theorem dX12_layDoing_220 : decode cX12_layDoing 220 = .ok (.iload_n 3, 1) := by decide +kernel
theorem dX12_layDoing_221 : decode cX12_layDoing 221 = .ok (.baload, 1) := by decide +kernel
theorem dX12_layDoing_222 : decode cX12_layDoing 222 = .ok (.bastore, 1) := by decide +kernel
theorem dX12_layDoing_223 : decode cX12_layDoing 223 = .ok (.iinc 3 1, 3) := by decide +kernel
theorem dX12_layDoing_226 : decode cX12_layDoing 226 = .ok (.goto (-22), 3) := by decide +kernel
theorem dX12_layDoing_229 : decode cX12_layDoing 229 = .ok (.return_, 1) := by decide +kernel
theorem dX12_explained_0 : decode cX12_explained 0 = .ok (.aload_n 0, 1) := by decide +kernel
theorem dX12_explained_1 : decode cX12_explained 1 = .ok (.iconst 0, 1) := by decide +kernel
theorem dX12_explained_2 : decode cX12_explained 2 = .ok (.putfield 161, 3) := by decide +kernel
theorem dX12_explained_5 : decode cX12_explained 5 = .ok (.aload_n 0, 1) := by decide +kernel
theorem dX12_explained_6 : decode cX12_explained 6 = .ok (.iload_n 1, 1) := by decide +kernel
theorem dX12_explained_7 : decode cX12_explained 7 = .ok (.invokevirtual 210, 3) := by decide +kernel
theorem dX12_explained_10 : decode cX12_explained 10 = .ok (.ifCond .eq 11, 3) := by decide +kernel
theorem dX12_explained_13 : decode cX12_explained 13 = .ok (.aload_n 0, 1) := by decide +kernel
theorem dX12_explained_14 : decode cX12_explained 14 = .ok (.iload_n 1, 1) := by decide +kernel
theorem dX12_explained_15 : decode cX12_explained 15 = .ok (.invokevirtual 193, 3) := by decide +kernel
theorem dX12_explained_18 : decode cX12_explained 18 = .ok (.ifCond .ne 5, 3) := by decide +kernel
theorem dX12_explained_21 : decode cX12_explained 21 = .ok (.iconst (-1), 1) := by decide +kernel
theorem dX12_explained_22 : decode cX12_explained 22 = .ok (.ireturn, 1) := by decide +kernel
theorem dX12_explained_23 : decode cX12_explained 23 = .ok (.iconst 0, 1) := by decide +kernel
theorem dX12_explained_24 : decode cX12_explained 24 = .ok (.istore_n 2, 1) := by decide +kernel
theorem dX12_explained_25 : decode cX12_explained 25 = .ok (.iload_n 2, 1) := by decide +kernel
theorem dX12_explained_26 : decode cX12_explained 26 = .ok (.sipush 4608, 3) := by decide +kernel
theorem dX12_explained_29 : decode cX12_explained 29 = .ok (.if_icmp .ge 46, 3) := by decide +kernel
theorem dX12_explained_32 : decode cX12_explained 32 = .ok (.aload_n 0, 1) := by decide +kernel
theorem dX12_explained_33 : decode cX12_explained 33 = .ok (.getfield 132, 3) := by decide +kernel
theorem dX12_explained_36 : decode cX12_explained 36 = .ok (.iload_n 2, 1) := by decide +kernel
theorem dX12_explained_37 : decode cX12_explained 37 = .ok (.iload_n 2, 1) := by decide +kernel
theorem dX12_explained_38 : decode cX12_explained 38 = .ok (.bipush 9, 2) := by decide +kernel
theorem dX12_explained_40 : decode cX12_explained 40 = .ok (.aload_n 0, 1) := by decide +kernel
theorem dX12_explained_41 : decode cX12_explained 41 = .ok (.getfield 13, 3) := by decide +kernel
theorem dX12_explained_44 : decode cX12_explained 44 = .ok (.bipush 14, 2) := by decide +kernel
theorem dX12_explained_46 : decode cX12_explained 46 = .ok (.iload_n 1, 1) := by decide +kernel
theorem dX12_explained_47 : decode cX12_explained 47 = .ok (.iadd, 1) := by decide +kernel
theorem dX12_explained_48 : decode cX12_explained 48 = .ok (.iaload, 1) := by decide +kernel
theorem dX12_explained_49 : decode cX12_explained 49 = .ok (.imul, 1) := by decide +kernel
theorem dX12_explained_50 : decode cX12_explained 50 = .ok (.aload_n 0, 1) := by decide +kernel
theorem dX12_explained_51 : decode cX12_explained 51 = .ok (.getfield 13, 3) := by decide +kernel
theorem dX12_explained_54 : decode cX12_explained 54 = .ok (.bipush 8, 2) := by decide +kernel
theorem dX12_explained_56 : decode cX12_explained 56 = .ok (.iload_n 1, 1) := by decide +kernel
theorem dX12_explained_57 : decode cX12_explained 57 = .ok (.iadd, 1) := by decide +kernel
theorem dX12_explained_58 : decode cX12_explained 58 = .ok (.iaload, 1) := by decide +kernel
theorem dX12_explained_59 : decode cX12_explained 59 = .ok (.iadd, 1) := by decide +kernel
theorem dX12_explained_60 : decode cX12_explained 60 = .ok (.if_icmp .ne 7, 3) := by decide +kernel
theorem dX12_explained_63 : decode cX12_explained 63 = .ok (.iconst 1, 1) := by decide +kernel
theorem dX12_explained_64 : decode cX12_explained 64 = .ok (.goto 4, 3) := by decide +kernel
theorem dX12_explained_67 : decode cX12_explained 67 = .ok (.iconst 0, 1) := by decide +kernel
theorem dX12_explained_68 : decode cX12_explained 68 = .ok (.bastore, 1) := by decide +kernel
theorem dX12_explained_69 : decode cX12_explained 69 = .ok (.iinc 2 1, 3) := by decide +kernel
theorem dX12_explained_72 : decode cX12_explained 72 = .ok (.goto (-47), 3) := by decide +kernel
theorem dX12_explained_75 : decode cX12_explained 75 = .ok (.iconst 0, 1) := by decide +kernel
theorem dX12_explained_76 : decode cX12_explained 76 = .ok (.istore_n 2, 1) := by decide +kernel
theorem dX12_explained_77 : decode cX12_explained 77 = .ok (.iload_n 2, 1) := by decide +kernel
theorem dX12_explained_78 : decode cX12_explained 78 = .ok (.aload_n 0, 1) := by decide +kernel
theorem dX12_explained_79 : decode cX12_explained 79 = .ok (.getfield 13, 3) := by decide +kernel
theorem dX12_explained_82 : decode cX12_explained 82 = .ok (.iconst 2, 1) := by decide +kernel
theorem dX12_explained_83 : decode cX12_explained 83 = .ok (.iaload, 1) := by decide +kernel
theorem dX12_explained_84 : decode cX12_explained 84 = .ok (.if_icmp .ge 15, 3) := by decide +kernel
theorem dX12_explained_87 : decode cX12_explained 87 = .ok (.aload_n 0, 1) := by decide +kernel
theorem dX12_explained_88 : decode cX12_explained 88 = .ok (.iload_n 1, 1) := by decide +kernel
theorem dX12_explained_89 : decode cX12_explained 89 = .ok (.iload_n 2, 1) := by decide +kernel
theorem dX12_explained_90 : decode cX12_explained 90 = .ok (.invokevirtual 486, 3) := by decide +kernel
theorem dX12_explained_93 : decode cX12_explained 93 = .ok (.iinc 2 1, 3) := by decide +kernel
theorem dX12_explained_96 : decode cX12_explained 96 = .ok (.goto (-19), 3) := by decide +kernel
theorem dX12_explained_99 : decode cX12_explained 99 = .ok (.ldc_w 485, 3) := by decide +kernel
theorem dX12_explained_102 : decode cX12_explained 102 = .ok (.istore_n 2, 1) := by decide +kernel
theorem dX12_explained_103 : decode cX12_explained 103 = .ok (.iconst 0, 1) := by decide +kernel
theorem dX12_explained_104 : decode cX12_explained 104 = .ok (.istore_n 3, 1) := by decide +kernel
theorem dX12_explained_105 : decode cX12_explained 105 = .ok (.iload_n 3, 1) := by decide +kernel
theorem dX12_explained_106 : decode cX12_explained 106 = .ok (.sipush 4608, 3) := by decide +kernel
theorem dX12_explained_109 : decode cX12_explained 109 = .ok (.if_icmp .ge 55, 3) := by decide +kernel
theorem dX12_explained_112 : decode cX12_explained 112 = .ok (.iconst 1, 1) := by decide +kernel
theorem dX12_explained_113 : decode cX12_explained 113 = .ok (.aload_n 0, 1) := by decide +kernel
theorem dX12_explained_114 : decode cX12_explained 114 = .ok (.getfield 13, 3) := by decide +kernel
theorem dX12_explained_117 : decode cX12_explained 117 = .ok (.bipush 14, 2) := by decide +kernel
theorem dX12_explained_119 : decode cX12_explained 119 = .ok (.iload_n 1, 1) := by decide +kernel
theorem dX12_explained_120 : decode cX12_explained 120 = .ok (.iadd, 1) := by decide +kernel
theorem dX12_explained_121 : decode cX12_explained 121 = .ok (.iaload, 1) := by decide +kernel
theorem dX12_explained_122 : decode cX12_explained 122 = .ok (.invokestatic 190, 3) := by decide +kernel
theorem dX12_explained_125 : decode cX12_explained 125 = .ok (.iadd, 1) := by decide +kernel
theorem dX12_explained_126 : decode cX12_explained 126 = .ok (.iload_n 3, 1) := by decide +kernel
theorem dX12_explained_127 : decode cX12_explained 127 = .ok (.bipush 9, 2) := by decide +kernel
theorem dX12_explained_129 : decode cX12_explained 129 = .ok (.idiv, 1) := by decide +kernel
theorem dX12_explained_130 : decode cX12_explained 130 = .ok (.invokestatic 190, 3) := by decide +kernel
theorem dX12_explained_133 : decode cX12_explained 133 = .ok (.isub, 1) := by decide +kernel
theorem dX12_explained_134 : decode cX12_explained 134 = .ok (.istore 4, 2) := by decide +kernel
theorem dX12_explained_136 : decode cX12_explained 136 = .ok (.aload_n 0, 1) := by decide +kernel
theorem dX12_explained_137 : decode cX12_explained 137 = .ok (.getfield 132, 3) := by decide +kernel
theorem dX12_explained_140 : decode cX12_explained 140 = .ok (.iload_n 3, 1) := by decide +kernel
theorem dX12_explained_141 : decode cX12_explained 141 = .ok (.baload, 1) := by decide +kernel
theorem dX12_explained_142 : decode cX12_explained 142 = .ok (.ifCond .eq 14, 3) := by decide +kernel
theorem dX12_explained_145 : decode cX12_explained 145 = .ok (.iload 4, 2) := by decide +kernel
theorem dX12_explained_147 : decode cX12_explained 147 = .ok (.iload_n 2, 1) := by decide +kernel
theorem dX12_explained_148 : decode cX12_explained 148 = .ok (.if_icmp .ge 8, 3) := by decide +kernel
theorem dX12_explained_151 : decode cX12_explained 151 = .ok (.iload 4, 2) := by decide +kernel
theorem dX12_explained_153 : decode cX12_explained 153 = .ok (.goto 4, 3) := by decide +kernel
theorem dX12_explained_156 : decode cX12_explained 156 = .ok (.iload_n 2, 1) := by decide +kernel
theorem dX12_explained_157 : decode cX12_explained 157 = .ok (.istore_n 2, 1) := by decide +kernel
theorem dX12_explained_158 : decode cX12_explained 158 = .ok (.iinc 3 1, 3) := by decide +kernel
theorem dX12_explained_161 : decode cX12_explained 161 = .ok (.goto (-56), 3) := by decide +kernel
theorem dX12_explained_164 : decode cX12_explained 164 = .ok (.aload_n 0, 1) := by decide +kernel
theorem dX12_explained_165 : decode cX12_explained 165 = .ok (.getfield 13, 3) := by decide +kernel
theorem dX12_explained_168 : decode cX12_explained 168 = .ok (.iconst 2, 1) := by decide +kernel
theorem dX12_explained_169 : decode cX12_explained 169 = .ok (.iaload, 1) := by decide +kernel
theorem dX12_explained_170 : decode cX12_explained 170 = .ok (.ifCond .ne 7, 3) := by decide +kernel
theorem dX12_explained_173 : decode cX12_explained 173 = .ok (.iconst 0, 1) := by decide +kernel
theorem dX12_explained_174 : decode cX12_explained 174 = .ok (.goto 15, 3) := by decide +kernel
theorem dX12_explained_177 : decode cX12_explained 177 = .ok (.iload_n 2, 1) := by decide +kernel
theorem dX12_explained_178 : decode cX12_explained 178 = .ok (.ldc_w 485, 3) := by decide +kernel
theorem dX12_explained_181 : decode cX12_explained 181 = .ok (.if_icmp .ne 7, 3) := by decide +kernel
theorem dX12_explained_184 : decode cX12_explained 184 = .ok (.iconst (-1), 1) := by decide +kernel
theorem dX12_explained_185 : decode cX12_explained 185 = .ok (.goto 4, 3) := by decide +kernel
theorem dX12_explained_188 : decode cX12_explained 188 = .ok (.iload_n 2, 1) := by decide +kernel
theorem dX12_explained_189 : decode cX12_explained 189 = .ok (.ireturn, 1) := by decide +kernel
theorem dX12_complete_0 : decode cX12_complete 0 = .ok (.aload_n 0, 1) := by decide +kernel
theorem dX12_complete_1 : decode cX12_complete 1 = .ok (.iconst 0, 1) := by decide +kernel
theorem dX12_complete_2 : decode cX12_complete 2 = .ok (.putfield 161, 3) := by decide +kernel
theorem dX12_complete_5 : decode cX12_complete 5 = .ok (.aload_n 0, 1) := by decide +kernel
theorem dX12_complete_6 : decode cX12_complete 6 = .ok (.iload_n 1, 1) := by decide +kernel
theorem dX12_complete_7 : decode cX12_complete 7 = .ok (.invokevirtual 228, 3) := by decide +kernel
theorem dX12_complete_10 : decode cX12_complete 10 = .ok (.ifCond .eq 13, 3) := by decide +kernel
theorem dX12_complete_13 : decode cX12_complete 13 = .ok (.iload_n 2, 1) := by decide +kernel
theorem dX12_complete_14 : decode cX12_complete 14 = .ok (.i2l, 1) := by decide +kernel
theorem dX12_complete_15 : decode cX12_complete 15 = .ok (.lconst 0, 1) := by decide +kernel
theorem dX12_complete_16 : decode cX12_complete 16 = .ok (.lconst 1, 1) := by decide +kernel
theorem dX12_complete_17 : decode cX12_complete 17 = .ok (.invokestatic 181, 3) := by decide +kernel
theorem dX12_complete_20 : decode cX12_complete 20 = .ok (.ifCond .ne 5, 3) := by decide +kernel
theorem dX12_complete_23 : decode cX12_complete 23 = .ok (.iconst (-1), 1) := by decide +kernel
theorem dX12_complete_24 : decode cX12_complete 24 = .ok (.ireturn, 1) := by decide +kernel
theorem dX12_complete_25 : decode cX12_complete 25 = .ok (.aload_n 0, 1) := by decide +kernel
theorem dX12_complete_26 : decode cX12_complete 26 = .ok (.invokevirtual 489, 3) := by decide +kernel
theorem dX12_complete_29 : decode cX12_complete 29 = .ok (.aload_n 0, 1) := by decide +kernel
theorem dX12_complete_30 : decode cX12_complete 30 = .ok (.iload_n 1, 1) := by decide +kernel
theorem dX12_complete_31 : decode cX12_complete 31 = .ok (.invokevirtual 237, 3) := by decide +kernel
theorem dX12_complete_34 : decode cX12_complete 34 = .ok (.iconst (-1), 1) := by decide +kernel
theorem dX12_complete_35 : decode cX12_complete 35 = .ok (.ixor, 1) := by decide +kernel
theorem dX12_complete_36 : decode cX12_complete 36 = .ok (.iand, 1) := by decide +kernel
theorem dX12_complete_37 : decode cX12_complete 37 = .ok (.istore_n 3, 1) := by decide +kernel
theorem dX12_complete_38 : decode cX12_complete 38 = .ok (.iconst 0, 1) := by decide +kernel
theorem dX12_complete_39 : decode cX12_complete 39 = .ok (.istore 4, 2) := by decide +kernel
theorem dX12_complete_41 : decode cX12_complete 41 = .ok (.iload 4, 2) := by decide +kernel
theorem dX12_complete_43 : decode cX12_complete 43 = .ok (.aload_n 0, 1) := by decide +kernel
theorem dX12_complete_44 : decode cX12_complete 44 = .ok (.getfield 13, 3) := by decide +kernel
theorem dX12_complete_47 : decode cX12_complete 47 = .ok (.iconst 0, 1) := by decide +kernel
theorem dX12_complete_48 : decode cX12_complete 48 = .ok (.iaload, 1) := by decide +kernel
theorem dX12_complete_49 : decode cX12_complete 49 = .ok (.if_icmp .ge 36, 3) := by decide +kernel
theorem dX12_complete_52 : decode cX12_complete 52 = .ok (.iload_n 3, 1) := by decide +kernel
theorem dX12_complete_53 : decode cX12_complete 53 = .ok (.aload_n 0, 1) := by decide +kernel
theorem dX12_complete_54 : decode cX12_complete 54 = .ok (.getfield 13, 3) := by decide +kernel
theorem dX12_complete_57 : decode cX12_complete 57 = .ok (.bipush 32, 2) := by decide +kernel
theorem dX12_complete_59 : decode cX12_complete 59 = .ok (.iload 4, 2) := by decide +kernel
theorem dX12_complete_61 : decode cX12_complete 61 = .ok (.iadd, 1) := by decide +kernel
theorem dX12_complete_62 : decode cX12_complete 62 = .ok (.iaload, 1) := by decide +kernel
theorem dX12_complete_63 : decode cX12_complete 63 = .ok (.iconst (-1), 1) := by decide +kernel
theorem dX12_complete_64 : decode cX12_complete 64 = .ok (.if_icmp .ne 7, 3) := by decide +kernel
theorem dX12_complete_67 : decode cX12_complete 67 = .ok (.iconst (-1), 1) := by decide +kernel
theorem dX12_complete_68 : decode cX12_complete 68 = .ok (.goto 9, 3) := by decide +kernel
theorem dX12_complete_71 : decode cX12_complete 71 = .ok (.iconst 1, 1) := by decide +kernel
theorem dX12_complete_72 : decode cX12_complete 72 = .ok (.iload 4, 2) := by decide +kernel
theorem dX12_complete_74 : decode cX12_complete 74 = .ok (.ishl, 1) := by decide +kernel
theorem dX12_complete_75 : decode cX12_complete 75 = .ok (.iconst (-1), 1) := by decide +kernel
theorem dX12_complete_76 : decode cX12_complete 76 = .ok (.ixor, 1) := by decide +kernel
theorem dX12_complete_77 : decode cX12_complete 77 = .ok (.iand, 1) := by decide +kernel
theorem dX12_complete_78 : decode cX12_complete 78 = .ok (.istore_n 3, 1) := by decide +kernel
theorem dX12_complete_79 : decode cX12_complete 79 = .ok (.iinc 4 1, 3) := by decide +kernel
theorem dX12_complete_82 : decode cX12_complete 82 = .ok (.goto (-41), 3) := by decide +kernel
theorem dX12_complete_85 : decode cX12_complete 85 = .ok (.ldc_w 485, 3) := by decide +kernel
theorem dX12_complete_88 : decode cX12_complete 88 = .ok (.istore 4, 2) := by decide +kernel
theorem dX12_complete_90 : decode cX12_complete 90 = .ok (.iconst (-1), 1) := by decide +kernel
theorem dX12_complete_91 : decode cX12_complete 91 = .ok (.istore 5, 2) := by decide +kernel
theorem dX12_complete_93 : decode cX12_complete 93 = .ok (.iconst 0, 1) := by decide +kernel
theorem dX12_complete_94 : decode cX12_complete 94 = .ok (.istore 6, 2) := by decide +kernel
theorem dX12_complete_96 : decode cX12_complete 96 = .ok (.iload 6, 2) := by decide +kernel
theorem dX12_complete_98 : decode cX12_complete 98 = .ok (.iconst 1, 1) := by decide +kernel
theorem dX12_complete_99 : decode cX12_complete 99 = .ok (.aload_n 0, 1) := by decide +kernel
theorem dX12_complete_100 : decode cX12_complete 100 = .ok (.getfield 13, 3) := by decide +kernel
theorem dX12_complete_103 : decode cX12_complete 103 = .ok (.iconst 0, 1) := by decide +kernel
theorem dX12_complete_104 : decode cX12_complete 104 = .ok (.iaload, 1) := by decide +kernel
theorem dX12_complete_105 : decode cX12_complete 105 = .ok (.ishl, 1) := by decide +kernel
theorem dX12_complete_106 : decode cX12_complete 106 = .ok (.if_icmp .ge 93, 3) := by decide +kernel
theorem dX12_complete_109 : decode cX12_complete 109 = .ok (.iload 6, 2) := by decide +kernel
theorem dX12_complete_111 : decode cX12_complete 111 = .ok (.iload_n 3, 1) := by decide +kernel
theorem dX12_complete_112 : decode cX12_complete 112 = .ok (.iconst (-1), 1) := by decide +kernel
theorem dX12_complete_113 : decode cX12_complete 113 = .ok (.ixor, 1) := by decide +kernel
theorem dX12_complete_114 : decode cX12_complete 114 = .ok (.iand, 1) := by decide +kernel
theorem dX12_complete_115 : decode cX12_complete 115 = .ok (.ifCond .ne 44, 3) := by decide +kernel
theorem dX12_complete_118 : decode cX12_complete 118 = .ok (.iload 6, 2) := by decide +kernel
theorem dX12_complete_120 : decode cX12_complete 120 = .ok (.invokestatic 190, 3) := by decide +kernel
theorem dX12_complete_123 : decode cX12_complete 123 = .ok (.iload 4, 2) := by decide +kernel
theorem dX12_complete_125 : decode cX12_complete 125 = .ok (.if_icmp .ge 34, 3) := by decide +kernel
theorem dX12_complete_128 : decode cX12_complete 128 = .ok (.aload_n 0, 1) := by decide +kernel
theorem dX12_complete_129 : decode cX12_complete 129 = .ok (.getfield 13, 3) := by decide +kernel
theorem dX12_complete_132 : decode cX12_complete 132 = .ok (.bipush 38, 2) := by decide +kernel
theorem dX12_complete_134 : decode cX12_complete 134 = .ok (.iload_n 1, 1) := by decide +kernel
theorem dX12_complete_135 : decode cX12_complete 135 = .ok (.iadd, 1) := by decide +kernel
theorem dX12_complete_136 : decode cX12_complete 136 = .ok (.iaload, 1) := by decide +kernel
theorem dX12_complete_137 : decode cX12_complete 137 = .ok (.aload_n 0, 1) := by decide +kernel
theorem dX12_complete_138 : decode cX12_complete 138 = .ok (.aload_n 0, 1) := by decide +kernel
theorem dX12_complete_139 : decode cX12_complete 139 = .ok (.iload_n 1, 1) := by decide +kernel
theorem dX12_complete_140 : decode cX12_complete 140 = .ok (.invokevirtual 231, 3) := by decide +kernel
theorem dX12_complete_143 : decode cX12_complete 143 = .ok (.iload 6, 2) := by decide +kernel
theorem dX12_complete_145 : decode cX12_complete 145 = .ok (.ior, 1) := by decide +kernel
theorem dX12_complete_146 : decode cX12_complete 146 = .ok (.invokevirtual 234, 3) := by decide +kernel
theorem dX12_complete_149 : decode cX12_complete 149 = .ok (.iconst (-1), 1) := by decide +kernel
theorem dX12_complete_150 : decode cX12_complete 150 = .ok (.ixor, 1) := by decide +kernel
theorem dX12_complete_151 : decode cX12_complete 151 = .ok (.iand, 1) := by decide +kernel
theorem dX12_complete_152 : decode cX12_complete 152 = .ok (.ifCond .ne 7, 3) := by decide +kernel
theorem dX12_complete_155 : decode cX12_complete 155 = .ok (.iconst 1, 1) := by decide +kernel
theorem dX12_complete_156 : decode cX12_complete 156 = .ok (.goto 4, 3) := by decide +kernel
theorem dX12_complete_159 : decode cX12_complete 159 = .ok (.iconst 0, 1) := by decide +kernel
theorem dX12_complete_160 : decode cX12_complete 160 = .ok (.istore 7, 2) := by decide +kernel
theorem dX12_complete_162 : decode cX12_complete 162 = .ok (.iload 7, 2) := by decide +kernel
theorem dX12_complete_164 : decode cX12_complete 164 = .ok (.ifCond .eq 8, 3) := by decide +kernel
theorem dX12_complete_167 : decode cX12_complete 167 = .ok (.iload 6, 2) := by decide +kernel
theorem dX12_complete_169 : decode cX12_complete 169 = .ok (.goto 5, 3) := by decide +kernel
theorem dX12_complete_172 : decode cX12_complete 172 = .ok (.iload 5, 2) := by decide +kernel
theorem dX12_complete_174 : decode cX12_complete 174 = .ok (.istore 5, 2) := by decide +kernel
theorem dX12_complete_176 : decode cX12_complete 176 = .ok (.iload 7, 2) := by decide +kernel
theorem dX12_complete_178 : decode cX12_complete 178 = .ok (.ifCond .eq 11, 3) := by decide +kernel
theorem dX12_complete_181 : decode cX12_complete 181 = .ok (.iload 6, 2) := by decide +kernel
theorem dX12_complete_183 : decode cX12_complete 183 = .ok (.invokestatic 190, 3) := by decide +kernel
theorem dX12_complete_186 : decode cX12_complete 186 = .ok (.goto 5, 3) := by decide +kernel
theorem dX12_complete_189 : decode cX12_complete 189 = .ok (.iload 4, 2) := by decide +kernel
theorem dX12_complete_191 : decode cX12_complete 191 = .ok (.istore 4, 2) := by decide +kernel
theorem dX12_complete_193 : decode cX12_complete 193 = .ok (.iinc 6 1, 3) := by decide +kernel
theorem dX12_complete_196 : decode cX12_complete 196 = .ok (.goto (-100), 3) := by decide +kernel
theorem dX12_complete_199 : decode cX12_complete 199 = .ok (.iload 5, 2) := by decide +kernel
theorem dX12_complete_201 : decode cX12_complete 201 = .ok (.iconst (-1), 1) := by decide +kernel
theorem dX12_complete_202 : decode cX12_complete 202 = .ok (.if_icmp .eq 8, 3) := by decide +kernel
theorem dX12_complete_205 : decode cX12_complete 205 = .ok (.iload_n 2, 1) := by decide +kernel
theorem dX12_complete_206 : decode cX12_complete 206 = .ok (.iconst 1, 1) := by decide +kernel
theorem dX12_complete_207 : decode cX12_complete 207 = .ok (.if_icmp .ne 8, 3) := by decide +kernel
theorem dX12_complete_210 : decode cX12_complete 210 = .ok (.iload 5, 2) := by decide +kernel
theorem dX12_complete_212 : decode cX12_complete 212 = .ok (.goto 5, 3) := by decide +kernel
theorem dX12_complete_215 : decode cX12_complete 215 = .ok (.iload 4, 2) := by decide +kernel
theorem dX12_complete_217 : decode cX12_complete 217 = .ok (.ireturn, 1) := by decide +kernel
theorem dX12_safe_0 : decode cX12_safe 0 = .ok (.aload_n 0, 1) := by decide +kernel
theorem dX12_safe_1 : decode cX12_safe 1 = .ok (.iconst 0, 1) := by decide +kernel
theorem dX12_safe_2 : decode cX12_safe 2 = .ok (.putfield 161, 3) := by decide +kernel
theorem dX12_safe_5 : decode cX12_safe 5 = .ok (.aload_n 0, 1) := by decide +kernel
theorem dX12_safe_6 : decode cX12_safe 6 = .ok (.iload_n 1, 1) := by decide +kernel
theorem dX12_safe_7 : decode cX12_safe 7 = .ok (.invokevirtual 228, 3) := by decide +kernel
theorem dX12_safe_10 : decode cX12_safe 10 = .ok (.ifCond .ne 7, 3) := by decide +kernel
theorem dX12_safe_13 : decode cX12_safe 13 = .ok (.ldc2_w 287, 3) := by decide +kernel
theorem dX12_safe_16 : decode cX12_safe 16 = .ok (.lreturn, 1) := by decide +kernel
theorem dX12_safe_17 : decode cX12_safe 17 = .ok (.ldc2_w 480, 3) := by decide +kernel
theorem dX12_safe_20 : decode cX12_safe 20 = .ok (.lstore_n 2, 1) := by decide +kernel
theorem dX12_safe_21 : decode cX12_safe 21 = .ok (.iconst 0, 1) := by decide +kernel
theorem dX12_safe_22 : decode cX12_safe 22 = .ok (.istore 4, 2) := by decide +kernel
theorem dX12_safe_24 : decode cX12_safe 24 = .ok (.iload 4, 2) := by decide +kernel
theorem dX12_safe_26 : decode cX12_safe 26 = .ok (.aload_n 0, 1) := by decide +kernel
theorem dX12_safe_27 : decode cX12_safe 27 = .ok (.getfield 13, 3) := by decide +kernel
theorem dX12_safe_30 : decode cX12_safe 30 = .ok (.iconst 0, 1) := by decide +kernel
theorem dX12_safe_31 : decode cX12_safe 31 = .ok (.iaload, 1) := by decide +kernel
theorem dX12_safe_32 : decode cX12_safe 32 = .ok (.if_icmp .ge 56, 3) := by decide +kernel
theorem dX12_safe_35 : decode cX12_safe 35 = .ok (.aload_n 0, 1) := by decide +kernel
theorem dX12_safe_36 : decode cX12_safe 36 = .ok (.getfield 13, 3) := by decide +kernel
theorem dX12_safe_39 : decode cX12_safe 39 = .ok (.bipush 32, 2) := by decide +kernel
theorem dX12_safe_41 : decode cX12_safe 41 = .ok (.iload 4, 2) := by decide +kernel
theorem dX12_safe_43 : decode cX12_safe 43 = .ok (.iadd, 1) := by decide +kernel
theorem dX12_safe_44 : decode cX12_safe 44 = .ok (.iaload, 1) := by decide +kernel
theorem dX12_safe_45 : decode cX12_safe 45 = .ok (.iload_n 1, 1) := by decide +kernel
theorem dX12_safe_46 : decode cX12_safe 46 = .ok (.if_icmp .ne 36, 3) := by decide +kernel
theorem dX12_safe_49 : decode cX12_safe 49 = .ok (.lload_n 2, 1) := by decide +kernel
theorem dX12_safe_50 : decode cX12_safe 50 = .ok (.bipush 10, 2) := by decide +kernel
theorem dX12_safe_52 : decode cX12_safe 52 = .ok (.aload_n 0, 1) := by decide +kernel
theorem dX12_safe_53 : decode cX12_safe 53 = .ok (.iload 4, 2) := by decide +kernel
theorem dX12_safe_55 : decode cX12_safe 55 = .ok (.aload_n 0, 1) := by decide +kernel
theorem dX12_safe_56 : decode cX12_safe 56 = .ok (.getfield 13, 3) := by decide +kernel
theorem dX12_safe_59 : decode cX12_safe 59 = .ok (.bipush 8, 2) := by decide +kernel
theorem dX12_safe_61 : decode cX12_safe 61 = .ok (.iload 4, 2) := by decide +kernel
theorem dX12_safe_63 : decode cX12_safe 63 = .ok (.iadd, 1) := by decide +kernel
theorem dX12_safe_64 : decode cX12_safe 64 = .ok (.iaload, 1) := by decide +kernel
theorem dX12_safe_65 : decode cX12_safe 65 = .ok (.aload_n 0, 1) := by decide +kernel
theorem dX12_safe_66 : decode cX12_safe 66 = .ok (.iload 4, 2) := by decide +kernel
theorem dX12_safe_68 : decode cX12_safe 68 = .ok (.invokevirtual 213, 3) := by decide +kernel
theorem dX12_safe_71 : decode cX12_safe 71 = .ok (.invokevirtual 219, 3) := by decide +kernel
theorem dX12_safe_74 : decode cX12_safe 74 = .ok (.isub, 1) := by decide +kernel
theorem dX12_safe_75 : decode cX12_safe 75 = .ok (.i2l, 1) := by decide +kernel
theorem dX12_safe_76 : decode cX12_safe 76 = .ok (.lmul, 1) := by decide +kernel
theorem dX12_safe_77 : decode cX12_safe 77 = .ok (.ldc2_w 242, 3) := by decide +kernel
theorem dX12_safe_80 : decode cX12_safe 80 = .ok (.ldiv, 1) := by decide +kernel
theorem dX12_safe_81 : decode cX12_safe 81 = .ok (.lstore_n 2, 1) := by decide +kernel
theorem dX12_safe_82 : decode cX12_safe 82 = .ok (.iinc 4 1, 3) := by decide +kernel
theorem dX12_safe_85 : decode cX12_safe 85 = .ok (.goto (-61), 3) := by decide +kernel
theorem dX12_safe_88 : decode cX12_safe 88 = .ok (.lload_n 2, 1) := by decide +kernel
theorem dX12_safe_89 : decode cX12_safe 89 = .ok (.lreturn, 1) := by decide +kernel
theorem dX12_frauds_0 : decode cX12_frauds 0 = .ok (.aload_n 0, 1) := by decide +kernel
theorem dX12_frauds_1 : decode cX12_frauds 1 = .ok (.iconst 0, 1) := by decide +kernel
theorem dX12_frauds_2 : decode cX12_frauds 2 = .ok (.putfield 161, 3) := by decide +kernel
theorem dX12_frauds_5 : decode cX12_frauds 5 = .ok (.iconst 0, 1) := by decide +kernel
theorem dX12_frauds_6 : decode cX12_frauds 6 = .ok (.istore_n 1, 1) := by decide +kernel
theorem dX12_frauds_7 : decode cX12_frauds 7 = .ok (.iconst 0, 1) := by decide +kernel
theorem dX12_frauds_8 : decode cX12_frauds 8 = .ok (.istore_n 2, 1) := by decide +kernel
theorem dX12_frauds_9 : decode cX12_frauds 9 = .ok (.iload_n 2, 1) := by decide +kernel
theorem dX12_frauds_10 : decode cX12_frauds 10 = .ok (.aload_n 0, 1) := by decide +kernel
theorem dX12_frauds_11 : decode cX12_frauds 11 = .ok (.getfield 13, 3) := by decide +kernel
theorem dX12_frauds_14 : decode cX12_frauds 14 = .ok (.iconst 0, 1) := by decide +kernel
theorem dX12_frauds_15 : decode cX12_frauds 15 = .ok (.iaload, 1) := by decide +kernel
theorem dX12_frauds_16 : decode cX12_frauds 16 = .ok (.if_icmp .ge 62, 3) := by decide +kernel
theorem dX12_frauds_19 : decode cX12_frauds 19 = .ok (.iload_n 1, 1) := by decide +kernel
theorem dX12_frauds_20 : decode cX12_frauds 20 = .ok (.aload_n 0, 1) := by decide +kernel
theorem dX12_frauds_21 : decode cX12_frauds 21 = .ok (.iload_n 2, 1) := by decide +kernel
theorem dX12_frauds_22 : decode cX12_frauds 22 = .ok (.invokevirtual 193, 3) := by decide +kernel
theorem dX12_frauds_25 : decode cX12_frauds 25 = .ok (.ifCond .eq 44, 3) := by decide +kernel
theorem dX12_frauds_28 : decode cX12_frauds 28 = .ok (.aload_n 0, 1) := by decide +kernel
theorem dX12_frauds_29 : decode cX12_frauds 29 = .ok (.getfield 13, 3) := by decide +kernel
theorem dX12_frauds_32 : decode cX12_frauds 32 = .ok (.bipush 20, 2) := by decide +kernel
theorem dX12_frauds_34 : decode cX12_frauds 34 = .ok (.iload_n 2, 1) := by decide +kernel
theorem dX12_frauds_35 : decode cX12_frauds 35 = .ok (.iadd, 1) := by decide +kernel
theorem dX12_frauds_36 : decode cX12_frauds 36 = .ok (.iaload, 1) := by decide +kernel
theorem dX12_frauds_37 : decode cX12_frauds 37 = .ok (.bipush 9, 2) := by decide +kernel
theorem dX12_frauds_39 : decode cX12_frauds 39 = .ok (.if_icmp .eq 30, 3) := by decide +kernel
theorem dX12_frauds_42 : decode cX12_frauds 42 = .ok (.aload_n 0, 1) := by decide +kernel
theorem dX12_frauds_43 : decode cX12_frauds 43 = .ok (.getfield 13, 3) := by decide +kernel
theorem dX12_frauds_46 : decode cX12_frauds 46 = .ok (.bipush 20, 2) := by decide +kernel
theorem dX12_frauds_48 : decode cX12_frauds 48 = .ok (.iload_n 2, 1) := by decide +kernel
theorem dX12_frauds_49 : decode cX12_frauds 49 = .ok (.iadd, 1) := by decide +kernel
theorem dX12_frauds_50 : decode cX12_frauds 50 = .ok (.iaload, 1) := by decide +kernel
theorem dX12_frauds_51 : decode cX12_frauds 51 = .ok (.aload_n 0, 1) := by decide +kernel
theorem dX12_frauds_52 : decode cX12_frauds 52 = .ok (.getfield 13, 3) := by decide +kernel
theorem dX12_frauds_55 : decode cX12_frauds 55 = .ok (.bipush 8, 2) := by decide +kernel
theorem dX12_frauds_57 : decode cX12_frauds 57 = .ok (.iload_n 2, 1) := by decide +kernel
theorem dX12_frauds_58 : decode cX12_frauds 58 = .ok (.iadd, 1) := by decide +kernel
theorem dX12_frauds_59 : decode cX12_frauds 59 = .ok (.iaload, 1) := by decide +kernel
theorem dX12_frauds_60 : decode cX12_frauds 60 = .ok (.if_icmp .eq 9, 3) := by decide +kernel
theorem dX12_frauds_63 : decode cX12_frauds 63 = .ok (.iconst 1, 1) := by decide +kernel
theorem dX12_frauds_64 : decode cX12_frauds 64 = .ok (.iload_n 2, 1) := by decide +kernel
theorem dX12_frauds_65 : decode cX12_frauds 65 = .ok (.ishl, 1) := by decide +kernel
theorem dX12_frauds_66 : decode cX12_frauds 66 = .ok (.goto 4, 3) := by decide +kernel
theorem dX12_frauds_69 : decode cX12_frauds 69 = .ok (.iconst 0, 1) := by decide +kernel
theorem dX12_frauds_70 : decode cX12_frauds 70 = .ok (.ior, 1) := by decide +kernel
theorem dX12_frauds_71 : decode cX12_frauds 71 = .ok (.istore_n 1, 1) := by decide +kernel
theorem dX12_frauds_72 : decode cX12_frauds 72 = .ok (.iinc 2 1, 3) := by decide +kernel
theorem dX12_frauds_75 : decode cX12_frauds 75 = .ok (.goto (-66), 3) := by decide +kernel
theorem dX12_frauds_78 : decode cX12_frauds 78 = .ok (.iload_n 1, 1) := by decide +kernel
theorem dX12_frauds_79 : decode cX12_frauds 79 = .ok (.ireturn, 1) := by decide +kernel
theorem dX12_passFor_0 : decode cX12_passFor 0 = .ok (.aload_n 0, 1) := by decide +kernel
theorem dX12_passFor_1 : decode cX12_passFor 1 = .ok (.iload_n 1, 1) := by decide +kernel
theorem dX12_passFor_2 : decode cX12_passFor 2 = .ok (.invokevirtual 193, 3) := by decide +kernel
theorem dX12_passFor_5 : decode cX12_passFor 5 = .ok (.ifCond .eq 36, 3) := by decide +kernel
theorem dX12_passFor_8 : decode cX12_passFor 8 = .ok (.aload_n 0, 1) := by decide +kernel
theorem dX12_passFor_9 : decode cX12_passFor 9 = .ok (.iload_n 2, 1) := by decide +kernel
theorem dX12_passFor_10 : decode cX12_passFor 10 = .ok (.invokevirtual 193, 3) := by decide +kernel
theorem dX12_passFor_13 : decode cX12_passFor 13 = .ok (.ifCond .eq 28, 3) := by decide +kernel
theorem dX12_passFor_16 : decode cX12_passFor 16 = .ok (.aload_n 0, 1) := by decide +kernel
theorem dX12_passFor_17 : decode cX12_passFor 17 = .ok (.getfield 13, 3) := by decide +kernel
theorem dX12_passFor_20 : decode cX12_passFor 20 = .ok (.bipush 8, 2) := by decide +kernel
theorem dX12_passFor_22 : decode cX12_passFor 22 = .ok (.iload_n 1, 1) := by decide +kernel
theorem dX12_passFor_23 : decode cX12_passFor 23 = .ok (.iadd, 1) := by decide +kernel
theorem dX12_passFor_24 : decode cX12_passFor 24 = .ok (.iaload, 1) := by decide +kernel
theorem dX12_passFor_25 : decode cX12_passFor 25 = .ok (.aload_n 0, 1) := by decide +kernel
theorem dX12_passFor_26 : decode cX12_passFor 26 = .ok (.getfield 13, 3) := by decide +kernel
theorem dX12_passFor_29 : decode cX12_passFor 29 = .ok (.bipush 8, 2) := by decide +kernel
theorem dX12_passFor_31 : decode cX12_passFor 31 = .ok (.iload_n 2, 1) := by decide +kernel
theorem dX12_passFor_32 : decode cX12_passFor 32 = .ok (.iadd, 1) := by decide +kernel
theorem dX12_passFor_33 : decode cX12_passFor 33 = .ok (.iaload, 1) := by decide +kernel
theorem dX12_passFor_34 : decode cX12_passFor 34 = .ok (.if_icmp .eq 7, 3) := by decide +kernel
theorem dX12_passFor_37 : decode cX12_passFor 37 = .ok (.iconst 1, 1) := by decide +kernel
theorem dX12_passFor_38 : decode cX12_passFor 38 = .ok (.goto 4, 3) := by decide +kernel
theorem dX12_passFor_41 : decode cX12_passFor 41 = .ok (.iconst 0, 1) := by decide +kernel
theorem dX12_passFor_42 : decode cX12_passFor 42 = .ok (.istore_n 3, 1) := by decide +kernel
theorem dX12_passFor_43 : decode cX12_passFor 43 = .ok (.iconst 0, 1) := by decide +kernel
theorem dX12_passFor_44 : decode cX12_passFor 44 = .ok (.istore 4, 2) := by decide +kernel
theorem dX12_passFor_46 : decode cX12_passFor 46 = .ok (.iload 4, 2) := by decide +kernel
theorem dX12_passFor_48 : decode cX12_passFor 48 = .ok (.bipush 10, 2) := by decide +kernel
theorem dX12_passFor_50 : decode cX12_passFor 50 = .ok (.if_icmp .ge 64, 3) := by decide +kernel
theorem dX12_passFor_53 : decode cX12_passFor 53 = .ok (.iload_n 3, 1) := by decide +kernel
theorem dX12_passFor_54 : decode cX12_passFor 54 = .ok (.ifCond .eq 60, 3) := by decide +kernel
theorem dX12_passFor_57 : decode cX12_passFor 57 = .ok (.aload_n 0, 1) := by decide +kernel
theorem dX12_passFor_58 : decode cX12_passFor 58 = .ok (.iload_n 1, 1) := by decide +kernel
theorem dX12_passFor_59 : decode cX12_passFor 59 = .ok (.aload_n 0, 1) := by decide +kernel
theorem dX12_passFor_60 : decode cX12_passFor 60 = .ok (.getfield 13, 3) := by decide +kernel
theorem dX12_passFor_63 : decode cX12_passFor 63 = .ok (.bipush 8, 2) := by decide +kernel
theorem dX12_passFor_65 : decode cX12_passFor 65 = .ok (.iload_n 1, 1) := by decide +kernel
theorem dX12_passFor_66 : decode cX12_passFor 66 = .ok (.iadd, 1) := by decide +kernel
theorem dX12_passFor_67 : decode cX12_passFor 67 = .ok (.iaload, 1) := by decide +kernel
theorem dX12_passFor_68 : decode cX12_passFor 68 = .ok (.aload_n 0, 1) := by decide +kernel
theorem dX12_passFor_69 : decode cX12_passFor 69 = .ok (.iload_n 1, 1) := by decide +kernel
theorem dX12_passFor_70 : decode cX12_passFor 70 = .ok (.invokevirtual 213, 3) := by decide +kernel
theorem dX12_passFor_73 : decode cX12_passFor 73 = .ok (.iload 4, 2) := by decide +kernel
theorem dX12_passFor_75 : decode cX12_passFor 75 = .ok (.invokevirtual 222, 3) := by decide +kernel
theorem dX12_passFor_78 : decode cX12_passFor 78 = .ok (.aload_n 0, 1) := by decide +kernel
theorem dX12_passFor_79 : decode cX12_passFor 79 = .ok (.iload_n 2, 1) := by decide +kernel
theorem dX12_passFor_80 : decode cX12_passFor 80 = .ok (.aload_n 0, 1) := by decide +kernel
theorem dX12_passFor_81 : decode cX12_passFor 81 = .ok (.getfield 13, 3) := by decide +kernel
theorem dX12_passFor_84 : decode cX12_passFor 84 = .ok (.bipush 8, 2) := by decide +kernel
theorem dX12_passFor_86 : decode cX12_passFor 86 = .ok (.iload_n 2, 1) := by decide +kernel
theorem dX12_passFor_87 : decode cX12_passFor 87 = .ok (.iadd, 1) := by decide +kernel
theorem dX12_passFor_88 : decode cX12_passFor 88 = .ok (.iaload, 1) := by decide +kernel
theorem dX12_passFor_89 : decode cX12_passFor 89 = .ok (.aload_n 0, 1) := by decide +kernel
theorem dX12_passFor_90 : decode cX12_passFor 90 = .ok (.iload_n 2, 1) := by decide +kernel
theorem dX12_passFor_91 : decode cX12_passFor 91 = .ok (.invokevirtual 213, 3) := by decide +kernel
theorem dX12_passFor_94 : decode cX12_passFor 94 = .ok (.iload 4, 2) := by decide +kernel
theorem dX12_passFor_96 : decode cX12_passFor 96 = .ok (.invokevirtual 222, 3) := by decide +kernel
theorem dX12_passFor_99 : decode cX12_passFor 99 = .ok (.if_icmp .ne 7, 3) := by decide +kernel
theorem dX12_passFor_102 : decode cX12_passFor 102 = .ok (.iconst 1, 1) := by decide +kernel
theorem dX12_passFor_103 : decode cX12_passFor 103 = .ok (.goto 4, 3) := by decide +kernel
theorem dX12_passFor_106 : decode cX12_passFor 106 = .ok (.iconst 0, 1) := by decide +kernel
theorem dX12_passFor_107 : decode cX12_passFor 107 = .ok (.istore_n 3, 1) := by decide +kernel
theorem dX12_passFor_108 : decode cX12_passFor 108 = .ok (.iinc 4 1, 3) := by decide +kernel
theorem dX12_passFor_111 : decode cX12_passFor 111 = .ok (.goto (-65), 3) := by decide +kernel
theorem dX12_passFor_114 : decode cX12_passFor 114 = .ok (.iload_n 3, 1) := by decide +kernel
theorem dX12_passFor_115 : decode cX12_passFor 115 = .ok (.ireturn, 1) := by decide +kernel
theorem dX12_passing_0 : decode cX12_passing 0 = .ok (.aload_n 0, 1) := by decide +kernel
theorem dX12_passing_1 : decode cX12_passing 1 = .ok (.iconst 0, 1) := by decide +kernel
theorem dX12_passing_2 : decode cX12_passing 2 = .ok (.putfield 161, 3) := by decide +kernel
theorem dX12_passing_5 : decode cX12_passing 5 = .ok (.iconst 0, 1) := by decide +kernel
theorem dX12_passing_6 : decode cX12_passing 6 = .ok (.istore_n 2, 1) := by decide +kernel
theorem dX12_passing_7 : decode cX12_passing 7 = .ok (.iconst (-1), 1) := by decide +kernel
theorem dX12_passing_8 : decode cX12_passing 8 = .ok (.istore_n 3, 1) := by decide +kernel
theorem dX12_passing_9 : decode cX12_passing 9 = .ok (.iconst 0, 1) := by decide +kernel
theorem dX12_passing_10 : decode cX12_passing 10 = .ok (.istore 4, 2) := by decide +kernel
theorem dX12_passing_12 : decode cX12_passing 12 = .ok (.iload 4, 2) := by decide +kernel
theorem dX12_passing_14 : decode cX12_passing 14 = .ok (.aload_n 0, 1) := by decide +kernel
theorem dX12_passing_15 : decode cX12_passing 15 = .ok (.getfield 13, 3) := by decide +kernel
theorem dX12_passing_18 : decode cX12_passing 18 = .ok (.iconst 0, 1) := by decide +kernel
theorem dX12_passing_19 : decode cX12_passing 19 = .ok (.iaload, 1) := by decide +kernel
theorem dX12_passing_20 : decode cX12_passing 20 = .ok (.if_icmp .ge 64, 3) := by decide +kernel
theorem dX12_passing_23 : decode cX12_passing 23 = .ok (.iload 4, 2) := by decide +kernel
theorem dX12_passing_25 : decode cX12_passing 25 = .ok (.iconst 1, 1) := by decide +kernel
theorem dX12_passing_26 : decode cX12_passing 26 = .ok (.iadd, 1) := by decide +kernel
theorem dX12_passing_27 : decode cX12_passing 27 = .ok (.istore 5, 2) := by decide +kernel
theorem dX12_passing_29 : decode cX12_passing 29 = .ok (.iload 5, 2) := by decide +kernel
theorem dX12_passing_31 : decode cX12_passing 31 = .ok (.aload_n 0, 1) := by decide +kernel
theorem dX12_passing_32 : decode cX12_passing 32 = .ok (.getfield 13, 3) := by decide +kernel
theorem dX12_passing_35 : decode cX12_passing 35 = .ok (.iconst 0, 1) := by decide +kernel
theorem dX12_passing_36 : decode cX12_passing 36 = .ok (.iaload, 1) := by decide +kernel
theorem dX12_passing_37 : decode cX12_passing 37 = .ok (.if_icmp .ge 41, 3) := by decide +kernel
theorem dX12_passing_40 : decode cX12_passing 40 = .ok (.aload_n 0, 1) := by decide +kernel
theorem dX12_passing_41 : decode cX12_passing 41 = .ok (.iload 4, 2) := by decide +kernel
theorem dX12_passing_43 : decode cX12_passing 43 = .ok (.iload 5, 2) := by decide +kernel
theorem dX12_passing_45 : decode cX12_passing 45 = .ok (.invokevirtual 492, 3) := by decide +kernel
theorem dX12_passing_48 : decode cX12_passing 48 = .ok (.ifCond .eq 24, 3) := by decide +kernel
theorem dX12_passing_51 : decode cX12_passing 51 = .ok (.iload_n 2, 1) := by decide +kernel
theorem dX12_passing_52 : decode cX12_passing 52 = .ok (.iload_n 1, 1) := by decide +kernel
theorem dX12_passing_53 : decode cX12_passing 53 = .ok (.if_icmp .ne 14, 3) := by decide +kernel
theorem dX12_passing_56 : decode cX12_passing 56 = .ok (.bipush 10, 2) := by decide +kernel
theorem dX12_passing_58 : decode cX12_passing 58 = .ok (.iload 4, 2) := by decide +kernel
theorem dX12_passing_60 : decode cX12_passing 60 = .ok (.imul, 1) := by decide +kernel
theorem dX12_passing_61 : decode cX12_passing 61 = .ok (.iload 5, 2) := by decide +kernel
theorem dX12_passing_63 : decode cX12_passing 63 = .ok (.iadd, 1) := by decide +kernel
theorem dX12_passing_64 : decode cX12_passing 64 = .ok (.goto 4, 3) := by decide +kernel
theorem dX12_passing_67 : decode cX12_passing 67 = .ok (.iload_n 3, 1) := by decide +kernel
theorem dX12_passing_68 : decode cX12_passing 68 = .ok (.istore_n 3, 1) := by decide +kernel
theorem dX12_passing_69 : decode cX12_passing 69 = .ok (.iinc 2 1, 3) := by decide +kernel
theorem dX12_passing_72 : decode cX12_passing 72 = .ok (.iinc 5 1, 3) := by decide +kernel
theorem dX12_passing_75 : decode cX12_passing 75 = .ok (.goto (-46), 3) := by decide +kernel
theorem dX12_passing_78 : decode cX12_passing 78 = .ok (.iinc 4 1, 3) := by decide +kernel
theorem dX12_passing_81 : decode cX12_passing 81 = .ok (.goto (-69), 3) := by decide +kernel
theorem dX12_passing_84 : decode cX12_passing 84 = .ok (.iload_n 1, 1) := by decide +kernel
theorem dX12_passing_85 : decode cX12_passing 85 = .ok (.iconst (-1), 1) := by decide +kernel
theorem dX12_passing_86 : decode cX12_passing 86 = .ok (.if_icmp .ne 7, 3) := by decide +kernel
theorem dX12_passing_89 : decode cX12_passing 89 = .ok (.iload_n 2, 1) := by decide +kernel
theorem dX12_passing_90 : decode cX12_passing 90 = .ok (.goto 4, 3) := by decide +kernel
theorem dX12_passing_93 : decode cX12_passing 93 = .ok (.iload_n 3, 1) := by decide +kernel
theorem dX12_passing_94 : decode cX12_passing 94 = .ok (.ireturn, 1) := by decide +kernel
theorem dX12_unused_0 : decode cX12_unused 0 = .ok (.aload_n 0, 1) := by decide +kernel
theorem dX12_unused_1 : decode cX12_unused 1 = .ok (.iconst 0, 1) := by decide +kernel
theorem dX12_unused_2 : decode cX12_unused 2 = .ok (.putfield 161, 3) := by decide +kernel
theorem dX12_unused_5 : decode cX12_unused 5 = .ok (.sipush 511, 3) := by decide +kernel
theorem dX12_unused_8 : decode cX12_unused 8 = .ok (.aload_n 0, 1) := by decide +kernel
theorem dX12_unused_9 : decode cX12_unused 9 = .ok (.aload_n 0, 1) := by decide +kernel
theorem dX12_unused_10 : decode cX12_unused 10 = .ok (.invokevirtual 489, 3) := by decide +kernel
theorem dX12_unused_13 : decode cX12_unused 13 = .ok (.invokevirtual 234, 3) := by decide +kernel
theorem dX12_unused_16 : decode cX12_unused 16 = .ok (.iconst (-1), 1) := by decide +kernel
theorem dX12_unused_17 : decode cX12_unused 17 = .ok (.ixor, 1) := by decide +kernel
theorem dX12_unused_18 : decode cX12_unused 18 = .ok (.iand, 1) := by decide +kernel
theorem dX12_unused_19 : decode cX12_unused 19 = .ok (.ireturn, 1) := by decide +kernel
theorem dX12_rich_0 : decode cX12_rich 0 = .ok (.aload_n 0, 1) := by decide +kernel
theorem dX12_rich_1 : decode cX12_rich 1 = .ok (.iconst 0, 1) := by decide +kernel
theorem dX12_rich_2 : decode cX12_rich 2 = .ok (.putfield 161, 3) := by decide +kernel
theorem dX12_rich_5 : decode cX12_rich 5 = .ok (.aload_n 0, 1) := by decide +kernel
theorem dX12_rich_6 : decode cX12_rich 6 = .ok (.iload_n 1, 1) := by decide +kernel
theorem dX12_rich_7 : decode cX12_rich 7 = .ok (.invokevirtual 410, 3) := by decide +kernel
theorem dX12_rich_10 : decode cX12_rich 10 = .ok (.ifCond .ne 5, 3) := by decide +kernel
theorem dX12_rich_13 : decode cX12_rich 13 = .ok (.iconst (-1), 1) := by decide +kernel
theorem dX12_rich_14 : decode cX12_rich 14 = .ok (.ireturn, 1) := by decide +kernel
theorem dX12_rich_15 : decode cX12_rich 15 = .ok (.aload_n 0, 1) := by decide +kernel
theorem dX12_rich_16 : decode cX12_rich 16 = .ok (.getfield 13, 3) := by decide +kernel
theorem dX12_rich_19 : decode cX12_rich 19 = .ok (.iconst 4, 1) := by decide +kernel
theorem dX12_rich_20 : decode cX12_rich 20 = .ok (.iaload, 1) := by decide +kernel
theorem dX12_rich_21 : decode cX12_rich 21 = .ok (.istore_n 2, 1) := by decide +kernel
theorem dX12_rich_22 : decode cX12_rich 22 = .ok (.aload_n 0, 1) := by decide +kernel
theorem dX12_rich_23 : decode cX12_rich 23 = .ok (.getfield 13, 3) := by decide +kernel
theorem dX12_rich_26 : decode cX12_rich 26 = .ok (.iconst 4, 1) := by decide +kernel
theorem dX12_rich_27 : decode cX12_rich 27 = .ok (.iload_n 1, 1) := by decide +kernel
theorem dX12_rich_28 : decode cX12_rich 28 = .ok (.iastore, 1) := by decide +kernel
theorem dX12_rich_29 : decode cX12_rich 29 = .ok (.iconst 0, 1) := by decide +kernel
theorem dX12_rich_30 : decode cX12_rich 30 = .ok (.istore_n 3, 1) := by decide +kernel
theorem dX12_rich_31 : decode cX12_rich 31 = .ok (.iconst 0, 1) := by decide +kernel
theorem dX12_rich_32 : decode cX12_rich 32 = .ok (.istore 4, 2) := by decide +kernel
theorem dX12_rich_34 : decode cX12_rich 34 = .ok (.iload 4, 2) := by decide +kernel
theorem dX12_rich_36 : decode cX12_rich 36 = .ok (.aload_n 0, 1) := by decide +kernel
theorem dX12_rich_37 : decode cX12_rich 37 = .ok (.getfield 13, 3) := by decide +kernel
theorem dX12_rich_40 : decode cX12_rich 40 = .ok (.iconst 0, 1) := by decide +kernel
theorem dX12_rich_41 : decode cX12_rich 41 = .ok (.iaload, 1) := by decide +kernel
theorem dX12_rich_42 : decode cX12_rich 42 = .ok (.if_icmp .ge 47, 3) := by decide +kernel
theorem dX12_rich_45 : decode cX12_rich 45 = .ok (.iload_n 3, 1) := by decide +kernel
theorem dX12_rich_46 : decode cX12_rich 46 = .ok (.aload_n 0, 1) := by decide +kernel
theorem dX12_rich_47 : decode cX12_rich 47 = .ok (.iload 4, 2) := by decide +kernel
theorem dX12_rich_49 : decode cX12_rich 49 = .ok (.invokevirtual 193, 3) := by decide +kernel
theorem dX12_rich_52 : decode cX12_rich 52 = .ok (.ifCond .eq 28, 3) := by decide +kernel
theorem dX12_rich_55 : decode cX12_rich 55 = .ok (.aload_n 0, 1) := by decide +kernel
theorem dX12_rich_56 : decode cX12_rich 56 = .ok (.iload 4, 2) := by decide +kernel
theorem dX12_rich_58 : decode cX12_rich 58 = .ok (.aload_n 0, 1) := by decide +kernel
theorem dX12_rich_59 : decode cX12_rich 59 = .ok (.getfield 13, 3) := by decide +kernel
theorem dX12_rich_62 : decode cX12_rich 62 = .ok (.bipush 8, 2) := by decide +kernel
theorem dX12_rich_64 : decode cX12_rich 64 = .ok (.iload 4, 2) := by decide +kernel
theorem dX12_rich_66 : decode cX12_rich 66 = .ok (.iadd, 1) := by decide +kernel
theorem dX12_rich_67 : decode cX12_rich 67 = .ok (.iaload, 1) := by decide +kernel
theorem dX12_rich_68 : decode cX12_rich 68 = .ok (.aload_n 0, 1) := by decide +kernel
theorem dX12_rich_69 : decode cX12_rich 69 = .ok (.iload 4, 2) := by decide +kernel
theorem dX12_rich_71 : decode cX12_rich 71 = .ok (.invokevirtual 213, 3) := by decide +kernel
theorem dX12_rich_74 : decode cX12_rich 74 = .ok (.invokevirtual 216, 3) := by decide +kernel
theorem dX12_rich_77 : decode cX12_rich 77 = .ok (.goto 4, 3) := by decide +kernel
theorem dX12_rich_80 : decode cX12_rich 80 = .ok (.iconst 0, 1) := by decide +kernel
theorem dX12_rich_81 : decode cX12_rich 81 = .ok (.iadd, 1) := by decide +kernel
theorem dX12_rich_82 : decode cX12_rich 82 = .ok (.istore_n 3, 1) := by decide +kernel
theorem dX12_rich_83 : decode cX12_rich 83 = .ok (.iinc 4 1, 3) := by decide +kernel
theorem dX12_rich_86 : decode cX12_rich 86 = .ok (.goto (-52), 3) := by decide +kernel
theorem dX12_rich_89 : decode cX12_rich 89 = .ok (.aload_n 0, 1) := by decide +kernel
theorem dX12_rich_90 : decode cX12_rich 90 = .ok (.getfield 13, 3) := by decide +kernel
theorem dX12_rich_93 : decode cX12_rich 93 = .ok (.iconst 4, 1) := by decide +kernel
theorem dX12_rich_94 : decode cX12_rich 94 = .ok (.iload_n 2, 1) := by decide +kernel
theorem dX12_rich_95 : decode cX12_rich 95 = .ok (.iastore, 1) := by decide +kernel
theorem dX12_rich_96 : decode cX12_rich 96 = .ok (.iload_n 3, 1) := by decide +kernel
theorem dX12_rich_97 : decode cX12_rich 97 = .ok (.ireturn, 1) := by decide +kernel
theorem dX12_readSum_0 : decode cX12_readSum 0 = .ok (.aload_n 0, 1) := by decide +kernel
theorem dX12_readSum_1 : decode cX12_readSum 1 = .ok (.getfield 149, 3) := by decide +kernel
theorem dX12_readSum_4 : decode cX12_readSum 4 = .ok (.iload_n 1, 1) := by decide +kernel
theorem dX12_readSum_5 : decode cX12_readSum 5 = .ok (.aload_n 0, 1) := by decide +kernel
theorem dX12_readSum_6 : decode cX12_readSum 6 = .ok (.getfield 297, 3) := by decide +kernel
theorem dX12_readSum_9 : decode cX12_readSum 9 = .ok (.iastore, 1) := by decide +kernel
theorem dX12_readSum_10 : decode cX12_readSum 10 = .ok (.aload_n 0, 1) := by decide +kernel
theorem dX12_readSum_11 : decode cX12_readSum 11 = .ok (.getfield 260, 3) := by decide +kernel
theorem dX12_readSum_14 : decode cX12_readSum 14 = .ok (.ifCond .ne 8, 3) := by decide +kernel
theorem dX12_readSum_17 : decode cX12_readSum 17 = .ok (.aload_n 0, 1) := by decide +kernel
theorem dX12_readSum_18 : decode cX12_readSum 18 = .ok (.iconst 0, 1) := by decide +kernel
theorem dX12_readSum_19 : decode cX12_readSum 19 = .ok (.invokevirtual 396, 3) := by decide +kernel
theorem dX12_readSum_22 : decode cX12_readSum 22 = .ok (.aload_n 0, 1) := by decide +kernel
theorem dX12_readSum_23 : decode cX12_readSum 23 = .ok (.getfield 149, 3) := by decide +kernel
theorem dX12_readSum_26 : decode cX12_readSum 26 = .ok (.iload_n 1, 1) := by decide +kernel
theorem dX12_readSum_27 : decode cX12_readSum 27 = .ok (.iconst 1, 1) := by decide +kernel
theorem dX12_readSum_28 : decode cX12_readSum 28 = .ok (.iadd, 1) := by decide +kernel
theorem dX12_readSum_29 : decode cX12_readSum 29 = .ok (.aload_n 0, 1) := by decide +kernel
theorem dX12_readSum_30 : decode cX12_readSum 30 = .ok (.getfield 297, 3) := by decide +kernel
theorem dX12_readSum_33 : decode cX12_readSum 33 = .ok (.iastore, 1) := by decide +kernel
theorem dX12_readSum_34 : decode cX12_readSum 34 = .ok (.return_, 1) := by decide +kernel
theorem dX12_readOrder_0 : decode cX12_readOrder 0 = .ok (.iconst (-1), 1) := by decide +kernel
theorem dX12_readOrder_1 : decode cX12_readOrder 1 = .ok (.istore_n 1, 1) := by decide +kernel
theorem dX12_readOrder_2 : decode cX12_readOrder 2 = .ok (.iconst 0, 1) := by decide +kernel
theorem dX12_readOrder_3 : decode cX12_readOrder 3 = .ok (.istore_n 2, 1) := by decide +kernel
theorem dX12_readOrder_4 : decode cX12_readOrder 4 = .ok (.iload_n 2, 1) := by decide +kernel
theorem dX12_readOrder_5 : decode cX12_readOrder 5 = .ok (.iconst 4, 1) := by decide +kernel
theorem dX12_readOrder_6 : decode cX12_readOrder 6 = .ok (.if_icmp .ge 28, 3) := by decide +kernel
theorem dX12_readOrder_9 : decode cX12_readOrder 9 = .ok (.aload_n 0, 1) := by decide +kernel
theorem dX12_readOrder_10 : decode cX12_readOrder 10 = .ok (.aload_n 0, 1) := by decide +kernel
theorem dX12_readOrder_11 : decode cX12_readOrder 11 = .ok (.getfield 146, 3) := by decide +kernel
theorem dX12_readOrder_14 : decode cX12_readOrder 14 = .ok (.iload_n 2, 1) := by decide +kernel
theorem dX12_readOrder_15 : decode cX12_readOrder 15 = .ok (.laload, 1) := by decide +kernel
theorem dX12_readOrder_16 : decode cX12_readOrder 16 = .ok (.invokevirtual 318, 3) := by decide +kernel
theorem dX12_readOrder_19 : decode cX12_readOrder 19 = .ok (.ifCond .eq 7, 3) := by decide +kernel
theorem dX12_readOrder_22 : decode cX12_readOrder 22 = .ok (.iload_n 2, 1) := by decide +kernel
theorem dX12_readOrder_23 : decode cX12_readOrder 23 = .ok (.goto 4, 3) := by decide +kernel
theorem dX12_readOrder_26 : decode cX12_readOrder 26 = .ok (.iload_n 1, 1) := by decide +kernel
theorem dX12_readOrder_27 : decode cX12_readOrder 27 = .ok (.istore_n 1, 1) := by decide +kernel
theorem dX12_readOrder_28 : decode cX12_readOrder 28 = .ok (.iinc 2 1, 3) := by decide +kernel
theorem dX12_readOrder_31 : decode cX12_readOrder 31 = .ok (.goto (-27), 3) := by decide +kernel
theorem dX12_readOrder_34 : decode cX12_readOrder 34 = .ok (.aload_n 0, 1) := by decide +kernel
theorem dX12_readOrder_35 : decode cX12_readOrder 35 = .ok (.iload_n 1, 1) := by decide +kernel
theorem dX12_readOrder_36 : decode cX12_readOrder 36 = .ok (.iconst (-1), 1) := by decide +kernel
theorem dX12_readOrder_37 : decode cX12_readOrder 37 = .ok (.if_icmp .eq 16, 3) := by decide +kernel
theorem dX12_readOrder_40 : decode cX12_readOrder 40 = .ok (.aload_n 0, 1) := by decide +kernel
theorem dX12_readOrder_41 : decode cX12_readOrder 41 = .ok (.getfield 393, 3) := by decide +kernel
theorem dX12_readOrder_44 : decode cX12_readOrder 44 = .ok (.bipush 12, 2) := by decide +kernel
theorem dX12_readOrder_46 : decode cX12_readOrder 46 = .ok (.if_icmp .ge 7, 3) := by decide +kernel
theorem dX12_readOrder_49 : decode cX12_readOrder 49 = .ok (.iconst 1, 1) := by decide +kernel
theorem dX12_readOrder_50 : decode cX12_readOrder 50 = .ok (.goto 4, 3) := by decide +kernel
theorem dX12_readOrder_53 : decode cX12_readOrder 53 = .ok (.iconst 0, 1) := by decide +kernel
theorem dX12_readOrder_54 : decode cX12_readOrder 54 = .ok (.invokevirtual 293, 3) := by decide +kernel
theorem dX12_readOrder_57 : decode cX12_readOrder 57 = .ok (.aload_n 0, 1) := by decide +kernel
theorem dX12_readOrder_58 : decode cX12_readOrder 58 = .ok (.getfield 260, 3) := by decide +kernel
theorem dX12_readOrder_61 : decode cX12_readOrder 61 = .ok (.ifCond .eq 4, 3) := by decide +kernel
theorem dX12_readOrder_64 : decode cX12_readOrder 64 = .ok (.return_, 1) := by decide +kernel
theorem dX12_readOrder_65 : decode cX12_readOrder 65 = .ok (.bipush 8, 2) := by decide +kernel
theorem dX12_readOrder_67 : decode cX12_readOrder 67 = .ok (.aload_n 0, 1) := by decide +kernel
theorem dX12_readOrder_68 : decode cX12_readOrder 68 = .ok (.getfield 393, 3) := by decide +kernel
theorem dX12_readOrder_71 : decode cX12_readOrder 71 = .ok (.imul, 1) := by decide +kernel
theorem dX12_readOrder_72 : decode cX12_readOrder 72 = .ok (.istore_n 2, 1) := by decide +kernel
theorem dX12_readOrder_73 : decode cX12_readOrder 73 = .ok (.aload_n 0, 1) := by decide +kernel
theorem dX12_readOrder_74 : decode cX12_readOrder 74 = .ok (.dup, 1) := by decide +kernel
theorem dX12_readOrder_75 : decode cX12_readOrder 75 = .ok (.getfield 393, 3) := by decide +kernel
theorem dX12_readOrder_78 : decode cX12_readOrder 78 = .ok (.iconst 1, 1) := by decide +kernel
theorem dX12_readOrder_79 : decode cX12_readOrder 79 = .ok (.iadd, 1) := by decide +kernel
theorem dX12_readOrder_80 : decode cX12_readOrder 80 = .ok (.putfield 393, 3) := by decide +kernel
theorem dX12_readOrder_83 : decode cX12_readOrder 83 = .ok (.iconst 0, 1) := by decide +kernel
theorem dX12_readOrder_84 : decode cX12_readOrder 84 = .ok (.istore_n 3, 1) := by decide +kernel
theorem dX12_readOrder_85 : decode cX12_readOrder 85 = .ok (.iload_n 3, 1) := by decide +kernel
theorem dX12_readOrder_86 : decode cX12_readOrder 86 = .ok (.bipush 8, 2) := by decide +kernel
theorem dX12_readOrder_88 : decode cX12_readOrder 88 = .ok (.if_icmp .ge 18, 3) := by decide +kernel
theorem dX12_readOrder_91 : decode cX12_readOrder 91 = .ok (.aload_n 0, 1) := by decide +kernel
theorem dX12_readOrder_92 : decode cX12_readOrder 92 = .ok (.getfield 149, 3) := by decide +kernel
theorem dX12_readOrder_95 : decode cX12_readOrder 95 = .ok (.iload_n 2, 1) := by decide +kernel
theorem dX12_readOrder_96 : decode cX12_readOrder 96 = .ok (.iload_n 3, 1) := by decide +kernel
theorem dX12_readOrder_97 : decode cX12_readOrder 97 = .ok (.iadd, 1) := by decide +kernel
theorem dX12_readOrder_98 : decode cX12_readOrder 98 = .ok (.iconst 0, 1) := by decide +kernel
theorem dX12_readOrder_99 : decode cX12_readOrder 99 = .ok (.iastore, 1) := by decide +kernel
theorem dX12_readOrder_100 : decode cX12_readOrder 100 = .ok (.iinc 3 1, 3) := by decide +kernel
theorem dX12_readOrder_103 : decode cX12_readOrder 103 = .ok (.goto (-18), 3) := by decide +kernel
theorem dX12_readOrder_106 : decode cX12_readOrder 106 = .ok (.aload_n 0, 1) := by decide +kernel
theorem dX12_readOrder_107 : decode cX12_readOrder 107 = .ok (.getfield 149, 3) := by decide +kernel
theorem dX12_readOrder_110 : decode cX12_readOrder 110 = .ok (.iload_n 2, 1) := by decide +kernel
theorem dX12_readOrder_111 : decode cX12_readOrder 111 = .ok (.iload_n 1, 1) := by decide +kernel
theorem dX12_readOrder_112 : decode cX12_readOrder 112 = .ok (.iastore, 1) := by decide +kernel
theorem dX12_readOrder_113 : decode cX12_readOrder 113 = .ok (.iload_n 1, 1) := by decide +kernel
theorem dX12_readOrder_114 : decode cX12_readOrder 114 = .ok (.iconst 3, 1) := by decide +kernel
theorem dX12_readOrder_115 : decode cX12_readOrder 115 = .ok (.if_icmp .eq 45, 3) := by decide +kernel
theorem dX12_readOrder_118 : decode cX12_readOrder 118 = .ok (.aload_n 0, 1) := by decide +kernel
theorem dX12_readOrder_119 : decode cX12_readOrder 119 = .ok (.iload_n 2, 1) := by decide +kernel
theorem dX12_readOrder_120 : decode cX12_readOrder 120 = .ok (.iconst 1, 1) := by decide +kernel
theorem dX12_readOrder_121 : decode cX12_readOrder 121 = .ok (.iadd, 1) := by decide +kernel
theorem dX12_readOrder_122 : decode cX12_readOrder 122 = .ok (.invokevirtual 495, 3) := by decide +kernel
theorem dX12_readOrder_125 : decode cX12_readOrder 125 = .ok (.aload_n 0, 1) := by decide +kernel
theorem dX12_readOrder_126 : decode cX12_readOrder 126 = .ok (.getfield 260, 3) := by decide +kernel
theorem dX12_readOrder_129 : decode cX12_readOrder 129 = .ok (.ifCond .ne 24, 3) := by decide +kernel
theorem dX12_readOrder_132 : decode cX12_readOrder 132 = .ok (.aload_n 0, 1) := by decide +kernel
theorem dX12_readOrder_133 : decode cX12_readOrder 133 = .ok (.aload_n 0, 1) := by decide +kernel
theorem dX12_readOrder_134 : decode cX12_readOrder 134 = .ok (.iload_n 1, 1) := by decide +kernel
theorem dX12_readOrder_135 : decode cX12_readOrder 135 = .ok (.ifCond .ne 9, 3) := by decide +kernel
theorem dX12_readOrder_138 : decode cX12_readOrder 138 = .ok (.ldc2_w 498, 3) := by decide +kernel
theorem dX12_readOrder_141 : decode cX12_readOrder 141 = .ok (.goto 6, 3) := by decide +kernel
theorem dX12_readOrder_144 : decode cX12_readOrder 144 = .ok (.ldc2_w 500, 3) := by decide +kernel
theorem dX12_readOrder_147 : decode cX12_readOrder 147 = .ok (.invokevirtual 318, 3) := by decide +kernel
theorem dX12_readOrder_150 : decode cX12_readOrder 150 = .ok (.invokevirtual 293, 3) := by decide +kernel
theorem dX12_readOrder_153 : decode cX12_readOrder 153 = .ok (.aload_n 0, 1) := by decide +kernel
theorem dX12_readOrder_154 : decode cX12_readOrder 154 = .ok (.iload_n 2, 1) := by decide +kernel
theorem dX12_readOrder_155 : decode cX12_readOrder 155 = .ok (.iconst 3, 1) := by decide +kernel
theorem dX12_readOrder_156 : decode cX12_readOrder 156 = .ok (.iadd, 1) := by decide +kernel
theorem dX12_readOrder_157 : decode cX12_readOrder 157 = .ok (.invokevirtual 495, 3) := by decide +kernel
theorem dX12_readOrder_160 : decode cX12_readOrder 160 = .ok (.aload_n 0, 1) := by decide +kernel
theorem dX12_readOrder_161 : decode cX12_readOrder 161 = .ok (.getfield 149, 3) := by decide +kernel
theorem dX12_readOrder_164 : decode cX12_readOrder 164 = .ok (.iload_n 2, 1) := by decide +kernel
theorem dX12_readOrder_165 : decode cX12_readOrder 165 = .ok (.bipush 7, 2) := by decide +kernel
theorem dX12_readOrder_167 : decode cX12_readOrder 167 = .ok (.iadd, 1) := by decide +kernel
theorem dX12_readOrder_168 : decode cX12_readOrder 168 = .ok (.iconst 1, 1) := by decide +kernel
theorem dX12_readOrder_169 : decode cX12_readOrder 169 = .ok (.iastore, 1) := by decide +kernel
theorem dX12_readOrder_170 : decode cX12_readOrder 170 = .ok (.aload_n 0, 1) := by decide +kernel
theorem dX12_readOrder_171 : decode cX12_readOrder 171 = .ok (.getfield 260, 3) := by decide +kernel
theorem dX12_readOrder_174 : decode cX12_readOrder 174 = .ok (.ifCond .ne 34, 3) := by decide +kernel
theorem dX12_readOrder_177 : decode cX12_readOrder 177 = .ok (.aload_n 0, 1) := by decide +kernel
theorem dX12_readOrder_178 : decode cX12_readOrder 178 = .ok (.ldc2_w 502, 3) := by decide +kernel
theorem dX12_readOrder_181 : decode cX12_readOrder 181 = .ok (.invokevirtual 318, 3) := by decide +kernel
theorem dX12_readOrder_184 : decode cX12_readOrder 184 = .ok (.ifCond .eq 24, 3) := by decide +kernel
theorem dX12_readOrder_187 : decode cX12_readOrder 187 = .ok (.aload_n 0, 1) := by decide +kernel
theorem dX12_readOrder_188 : decode cX12_readOrder 188 = .ok (.invokevirtual 264, 3) := by decide +kernel
theorem dX12_readOrder_191 : decode cX12_readOrder 191 = .ok (.aload_n 0, 1) := by decide +kernel
theorem dX12_readOrder_192 : decode cX12_readOrder 192 = .ok (.getfield 149, 3) := by decide +kernel
theorem dX12_readOrder_195 : decode cX12_readOrder 195 = .ok (.iload_n 2, 1) := by decide +kernel
theorem dX12_readOrder_196 : decode cX12_readOrder 196 = .ok (.bipush 7, 2) := by decide +kernel
theorem dX12_readOrder_198 : decode cX12_readOrder 198 = .ok (.iadd, 1) := by decide +kernel
theorem dX12_readOrder_199 : decode cX12_readOrder 199 = .ok (.aload_n 0, 1) := by decide +kernel
theorem dX12_readOrder_200 : decode cX12_readOrder 200 = .ok (.lconst 1, 1) := by decide +kernel
theorem dX12_readOrder_201 : decode cX12_readOrder 201 = .ok (.ldc2_w 310, 3) := by decide +kernel
theorem dX12_readOrder_204 : decode cX12_readOrder 204 = .ok (.invokevirtual 357, 3) := by decide +kernel
theorem dX12_readOrder_207 : decode cX12_readOrder 207 = .ok (.iastore, 1) := by decide +kernel
theorem dX12_readOrder_208 : decode cX12_readOrder 208 = .ok (.aload_n 0, 1) := by decide +kernel
theorem dX12_readOrder_209 : decode cX12_readOrder 209 = .ok (.getfield 149, 3) := by decide +kernel
theorem dX12_readOrder_212 : decode cX12_readOrder 212 = .ok (.iload_n 2, 1) := by decide +kernel
theorem dX12_readOrder_213 : decode cX12_readOrder 213 = .ok (.iconst 5, 1) := by decide +kernel
theorem dX12_readOrder_214 : decode cX12_readOrder 214 = .ok (.iadd, 1) := by decide +kernel
theorem dX12_readOrder_215 : decode cX12_readOrder 215 = .ok (.aload_n 0, 1) := by decide +kernel
theorem dX12_readOrder_216 : decode cX12_readOrder 216 = .ok (.getfield 297, 3) := by decide +kernel
theorem dX12_readOrder_219 : decode cX12_readOrder 219 = .ok (.iastore, 1) := by decide +kernel
theorem dX12_readOrder_220 : decode cX12_readOrder 220 = .ok (.aload_n 0, 1) := by decide +kernel
theorem dX12_readOrder_221 : decode cX12_readOrder 221 = .ok (.getfield 260, 3) := by decide +kernel
theorem dX12_readOrder_224 : decode cX12_readOrder 224 = .ok (.ifCond .ne 22, 3) := by decide +kernel
theorem dX12_readOrder_227 : decode cX12_readOrder 227 = .ok (.aload_n 0, 1) := by decide +kernel
theorem dX12_readOrder_228 : decode cX12_readOrder 228 = .ok (.ldc2_w 399, 3) := by decide +kernel
theorem dX12_readOrder_231 : decode cX12_readOrder 231 = .ok (.invokevirtual 318, 3) := by decide +kernel
theorem dX12_readOrder_234 : decode cX12_readOrder 234 = .ok (.ifCond .eq 12, 3) := by decide +kernel
theorem dX12_readOrder_237 : decode cX12_readOrder 237 = .ok (.aload_n 0, 1) := by decide +kernel
theorem dX12_readOrder_238 : decode cX12_readOrder 238 = .ok (.invokevirtual 264, 3) := by decide +kernel
theorem dX12_readOrder_241 : decode cX12_readOrder 241 = .ok (.aload_n 0, 1) := by decide +kernel
theorem dX12_readOrder_242 : decode cX12_readOrder 242 = .ok (.iconst 1, 1) := by decide +kernel
theorem dX12_readOrder_243 : decode cX12_readOrder 243 = .ok (.invokevirtual 396, 3) := by decide +kernel
theorem dX12_readOrder_246 : decode cX12_readOrder 246 = .ok (.aload_n 0, 1) := by decide +kernel
theorem dX12_readOrder_247 : decode cX12_readOrder 247 = .ok (.getfield 149, 3) := by decide +kernel
theorem dX12_readOrder_250 : decode cX12_readOrder 250 = .ok (.iload_n 2, 1) := by decide +kernel
theorem dX12_readOrder_251 : decode cX12_readOrder 251 = .ok (.bipush 6, 2) := by decide +kernel
theorem dX12_readOrder_253 : decode cX12_readOrder 253 = .ok (.iadd, 1) := by decide +kernel
theorem dX12_readOrder_254 : decode cX12_readOrder 254 = .ok (.aload_n 0, 1) := by decide +kernel
theorem dX12_readOrder_255 : decode cX12_readOrder 255 = .ok (.getfield 297, 3) := by decide +kernel
theorem dX12_readOrder_258 : decode cX12_readOrder 258 = .ok (.iastore, 1) := by decide +kernel
theorem dX12_readOrder_259 : decode cX12_readOrder 259 = .ok (.return_, 1) := by decide +kernel
theorem dX12_sumOf_0 : decode cX12_sumOf 0 = .ok (.aload_n 0, 1) := by decide +kernel
theorem dX12_sumOf_1 : decode cX12_sumOf 1 = .ok (.getfield 504, 3) := by decide +kernel
theorem dX12_sumOf_4 : decode cX12_sumOf 4 = .ok (.ifCond .ne 20, 3) := by decide +kernel
theorem dX12_sumOf_7 : decode cX12_sumOf 7 = .ok (.aload_n 0, 1) := by decide +kernel
theorem dX12_sumOf_8 : decode cX12_sumOf 8 = .ok (.getfield 149, 3) := by decide +kernel
theorem dX12_sumOf_11 : decode cX12_sumOf 11 = .ok (.iload_n 1, 1) := by decide +kernel
theorem dX12_sumOf_12 : decode cX12_sumOf 12 = .ok (.iaload, 1) := by decide +kernel
theorem dX12_sumOf_13 : decode cX12_sumOf 13 = .ok (.aload_n 0, 1) := by decide +kernel
theorem dX12_sumOf_14 : decode cX12_sumOf 14 = .ok (.getfield 149, 3) := by decide +kernel
theorem dX12_sumOf_17 : decode cX12_sumOf 17 = .ok (.iload_n 1, 1) := by decide +kernel
theorem dX12_sumOf_18 : decode cX12_sumOf 18 = .ok (.iconst 1, 1) := by decide +kernel
theorem dX12_sumOf_19 : decode cX12_sumOf 19 = .ok (.iadd, 1) := by decide +kernel
theorem dX12_sumOf_20 : decode cX12_sumOf 20 = .ok (.iaload, 1) := by decide +kernel
theorem dX12_sumOf_21 : decode cX12_sumOf 21 = .ok (.if_icmp .ne 5, 3) := by decide +kernel
theorem dX12_sumOf_24 : decode cX12_sumOf 24 = .ok (.iconst (-1), 1) := by decide +kernel
theorem dX12_sumOf_25 : decode cX12_sumOf 25 = .ok (.ireturn, 1) := by decide +kernel
theorem dX12_sumOf_26 : decode cX12_sumOf 26 = .ok (.aload_n 0, 1) := by decide +kernel
theorem dX12_sumOf_27 : decode cX12_sumOf 27 = .ok (.iconst 1, 1) := by decide +kernel
theorem dX12_sumOf_28 : decode cX12_sumOf 28 = .ok (.putfield 337, 3) := by decide +kernel
theorem dX12_sumOf_31 : decode cX12_sumOf 31 = .ok (.aload_n 0, 1) := by decide +kernel
theorem dX12_sumOf_32 : decode cX12_sumOf 32 = .ok (.aload_n 0, 1) := by decide +kernel
theorem dX12_sumOf_33 : decode cX12_sumOf 33 = .ok (.getfield 149, 3) := by decide +kernel
theorem dX12_sumOf_36 : decode cX12_sumOf 36 = .ok (.iload_n 1, 1) := by decide +kernel
theorem dX12_sumOf_37 : decode cX12_sumOf 37 = .ok (.iaload, 1) := by decide +kernel
theorem dX12_sumOf_38 : decode cX12_sumOf 38 = .ok (.aload_n 0, 1) := by decide +kernel
theorem dX12_sumOf_39 : decode cX12_sumOf 39 = .ok (.getfield 149, 3) := by decide +kernel
theorem dX12_sumOf_42 : decode cX12_sumOf 42 = .ok (.iload_n 1, 1) := by decide +kernel
theorem dX12_sumOf_43 : decode cX12_sumOf 43 = .ok (.iconst 1, 1) := by decide +kernel
theorem dX12_sumOf_44 : decode cX12_sumOf 44 = .ok (.iadd, 1) := by decide +kernel
theorem dX12_sumOf_45 : decode cX12_sumOf 45 = .ok (.iaload, 1) := by decide +kernel
theorem dX12_sumOf_46 : decode cX12_sumOf 46 = .ok (.invokevirtual 430, 3) := by decide +kernel
theorem dX12_sumOf_49 : decode cX12_sumOf 49 = .ok (.aload_n 0, 1) := by decide +kernel
theorem dX12_sumOf_50 : decode cX12_sumOf 50 = .ok (.iconst 0, 1) := by decide +kernel
theorem dX12_sumOf_51 : decode cX12_sumOf 51 = .ok (.putfield 337, 3) := by decide +kernel
theorem dX12_sumOf_54 : decode cX12_sumOf 54 = .ok (.aload_n 0, 1) := by decide +kernel
theorem dX12_sumOf_55 : decode cX12_sumOf 55 = .ok (.aload_n 0, 1) := by decide +kernel
theorem dX12_sumOf_56 : decode cX12_sumOf 56 = .ok (.getfield 413, 3) := by decide +kernel
theorem dX12_sumOf_59 : decode cX12_sumOf 59 = .ok (.putfield 504, 3) := by decide +kernel
theorem dX12_sumOf_62 : decode cX12_sumOf 62 = .ok (.aload_n 0, 1) := by decide +kernel
theorem dX12_sumOf_63 : decode cX12_sumOf 63 = .ok (.getfield 427, 3) := by decide +kernel
theorem dX12_sumOf_66 : decode cX12_sumOf 66 = .ok (.l2i, 1) := by decide +kernel
theorem dX12_sumOf_67 : decode cX12_sumOf 67 = .ok (.ireturn, 1) := by decide +kernel
theorem dX12_act_0 : decode cX12_act 0 = .ok (.iload_n 1, 1) := by decide +kernel
theorem dX12_act_1 : decode cX12_act 1 = .ok (.tableswitch 48 0 2 #[27, 34, 41], 27) := by decide +kernel
theorem dX12_act_28 : decode cX12_act 28 = .ok (.aload_n 0, 1) := by decide +kernel
theorem dX12_act_29 : decode cX12_act 29 = .ok (.iload_n 2, 1) := by decide +kernel
theorem dX12_act_30 : decode cX12_act 30 = .ok (.iload_n 3, 1) := by decide +kernel
theorem dX12_act_31 : decode cX12_act 31 = .ok (.invokevirtual 453, 3) := by decide +kernel
theorem dX12_act_34 : decode cX12_act 34 = .ok (.ireturn, 1) := by decide +kernel
theorem dX12_act_35 : decode cX12_act 35 = .ok (.aload_n 0, 1) := by decide +kernel
theorem dX12_act_36 : decode cX12_act 36 = .ok (.iload_n 2, 1) := by decide +kernel
theorem dX12_act_37 : decode cX12_act 37 = .ok (.iload_n 3, 1) := by decide +kernel
theorem dX12_act_38 : decode cX12_act 38 = .ok (.invokevirtual 459, 3) := by decide +kernel
theorem dX12_act_41 : decode cX12_act 41 = .ok (.ireturn, 1) := by decide +kernel
theorem dX12_act_42 : decode cX12_act 42 = .ok (.aload_n 0, 1) := by decide +kernel
theorem dX12_act_43 : decode cX12_act 43 = .ok (.iload_n 2, 1) := by decide +kernel
theorem dX12_act_44 : decode cX12_act 44 = .ok (.iload_n 3, 1) := by decide +kernel
theorem dX12_act_45 : decode cX12_act 45 = .ok (.invokevirtual 462, 3) := by decide +kernel
theorem dX12_act_48 : decode cX12_act 48 = .ok (.ireturn, 1) := by decide +kernel
theorem dX12_act_49 : decode cX12_act 49 = .ok (.aload_n 0, 1) := by decide +kernel
theorem dX12_act_50 : decode cX12_act 50 = .ok (.invokevirtual 468, 3) := by decide +kernel
theorem dX12_act_53 : decode cX12_act 53 = .ok (.ireturn, 1) := by decide +kernel
theorem dX12_run_0 : decode cX12_run 0 = .ok (.aload_n 0, 1) := by decide +kernel
theorem dX12_run_1 : decode cX12_run 1 = .ok (.getfield 102, 3) := by decide +kernel
theorem dX12_run_4 : decode cX12_run 4 = .ok (.iconst 1, 1) := by decide +kernel
theorem dX12_run_5 : decode cX12_run 5 = .ok (.aload_n 0, 1) := by decide +kernel
theorem dX12_run_6 : decode cX12_run 6 = .ok (.getfield 13, 3) := by decide +kernel
theorem dX12_run_9 : decode cX12_run 9 = .ok (.iconst 5, 1) := by decide +kernel
theorem dX12_run_10 : decode cX12_run 10 = .ok (.iaload, 1) := by decide +kernel
theorem dX12_run_11 : decode cX12_run 11 = .ok (.i2l, 1) := by decide +kernel
theorem dX12_run_12 : decode cX12_run 12 = .ok (.lastore, 1) := by decide +kernel
theorem dX12_run_13 : decode cX12_run 13 = .ok (.aload_n 0, 1) := by decide +kernel
theorem dX12_run_14 : decode cX12_run 14 = .ok (.getfield 102, 3) := by decide +kernel
theorem dX12_run_17 : decode cX12_run 17 = .ok (.iconst 2, 1) := by decide +kernel
theorem dX12_run_18 : decode cX12_run 18 = .ok (.aload_n 0, 1) := by decide +kernel
theorem dX12_run_19 : decode cX12_run 19 = .ok (.getfield 507, 3) := by decide +kernel
theorem dX12_run_22 : decode cX12_run 22 = .ok (.i2l, 1) := by decide +kernel
theorem dX12_run_23 : decode cX12_run 23 = .ok (.lastore, 1) := by decide +kernel
theorem dX12_run_24 : decode cX12_run 24 = .ok (.aload_n 0, 1) := by decide +kernel
theorem dX12_run_25 : decode cX12_run 25 = .ok (.getfield 102, 3) := by decide +kernel
theorem dX12_run_28 : decode cX12_run 28 = .ok (.iconst 3, 1) := by decide +kernel
theorem dX12_run_29 : decode cX12_run 29 = .ok (.aload_n 0, 1) := by decide +kernel
theorem dX12_run_30 : decode cX12_run 30 = .ok (.getfield 510, 3) := by decide +kernel
theorem dX12_run_33 : decode cX12_run 33 = .ok (.i2l, 1) := by decide +kernel
theorem dX12_run_34 : decode cX12_run 34 = .ok (.lastore, 1) := by decide +kernel
theorem dX12_run_35 : decode cX12_run 35 = .ok (.aload_n 0, 1) := by decide +kernel
theorem dX12_run_36 : decode cX12_run 36 = .ok (.getfield 102, 3) := by decide +kernel
theorem dX12_run_39 : decode cX12_run 39 = .ok (.iconst 4, 1) := by decide +kernel
theorem dX12_run_40 : decode cX12_run 40 = .ok (.aload_n 0, 1) := by decide +kernel
theorem dX12_run_41 : decode cX12_run 41 = .ok (.invokevirtual 489, 3) := by decide +kernel
theorem dX12_run_44 : decode cX12_run 44 = .ok (.invokestatic 190, 3) := by decide +kernel
theorem dX12_run_47 : decode cX12_run 47 = .ok (.i2l, 1) := by decide +kernel
theorem dX12_run_48 : decode cX12_run 48 = .ok (.lastore, 1) := by decide +kernel
theorem dX12_run_49 : decode cX12_run 49 = .ok (.aload_n 0, 1) := by decide +kernel
theorem dX12_run_50 : decode cX12_run 50 = .ok (.iconst 0, 1) := by decide +kernel
theorem dX12_run_51 : decode cX12_run 51 = .ok (.putfield 504, 3) := by decide +kernel
theorem dX12_run_54 : decode cX12_run 54 = .ok (.aload_n 0, 1) := by decide +kernel
theorem dX12_run_55 : decode cX12_run 55 = .ok (.getfield 149, 3) := by decide +kernel
theorem dX12_run_58 : decode cX12_run 58 = .ok (.iload_n 1, 1) := by decide +kernel
theorem dX12_run_59 : decode cX12_run 59 = .ok (.iconst 5, 1) := by decide +kernel
theorem dX12_run_60 : decode cX12_run 60 = .ok (.iadd, 1) := by decide +kernel
theorem dX12_run_61 : decode cX12_run 61 = .ok (.iaload, 1) := by decide +kernel
theorem dX12_run_62 : decode cX12_run 62 = .ok (.aload_n 0, 1) := by decide +kernel
theorem dX12_run_63 : decode cX12_run 63 = .ok (.getfield 149, 3) := by decide +kernel
theorem dX12_run_66 : decode cX12_run 66 = .ok (.iload_n 1, 1) := by decide +kernel
theorem dX12_run_67 : decode cX12_run 67 = .ok (.bipush 6, 2) := by decide +kernel
theorem dX12_run_69 : decode cX12_run 69 = .ok (.iadd, 1) := by decide +kernel
theorem dX12_run_70 : decode cX12_run 70 = .ok (.iaload, 1) := by decide +kernel
theorem dX12_run_71 : decode cX12_run 71 = .ok (.if_icmp .ge 24, 3) := by decide +kernel
theorem dX12_run_74 : decode cX12_run 74 = .ok (.aload_n 0, 1) := by decide +kernel
theorem dX12_run_75 : decode cX12_run 75 = .ok (.iload_n 1, 1) := by decide +kernel
theorem dX12_run_76 : decode cX12_run 76 = .ok (.iconst 5, 1) := by decide +kernel
theorem dX12_run_77 : decode cX12_run 77 = .ok (.iadd, 1) := by decide +kernel
theorem dX12_run_78 : decode cX12_run 78 = .ok (.invokevirtual 513, 3) := by decide +kernel
theorem dX12_run_81 : decode cX12_run 81 = .ok (.istore_n 2, 1) := by decide +kernel
theorem dX12_run_82 : decode cX12_run 82 = .ok (.aload_n 0, 1) := by decide +kernel
theorem dX12_run_83 : decode cX12_run 83 = .ok (.getfield 504, 3) := by decide +kernel
theorem dX12_run_86 : decode cX12_run 86 = .ok (.ifCond .ne 7, 3) := by decide +kernel
theorem dX12_run_89 : decode cX12_run 89 = .ok (.iload_n 2, 1) := by decide +kernel
theorem dX12_run_90 : decode cX12_run 90 = .ok (.ifCond .ne 5, 3) := by decide +kernel
theorem dX12_run_93 : decode cX12_run 93 = .ok (.iconst 0, 1) := by decide +kernel
theorem dX12_run_94 : decode cX12_run 94 = .ok (.ireturn, 1) := by decide +kernel
theorem dX12_run_95 : decode cX12_run 95 = .ok (.aload_n 0, 1) := by decide +kernel
theorem dX12_run_96 : decode cX12_run 96 = .ok (.iload_n 1, 1) := by decide +kernel
theorem dX12_run_97 : decode cX12_run 97 = .ok (.iconst 1, 1) := by decide +kernel
theorem dX12_run_98 : decode cX12_run 98 = .ok (.iadd, 1) := by decide +kernel
theorem dX12_run_99 : decode cX12_run 99 = .ok (.invokevirtual 513, 3) := by decide +kernel
theorem dX12_run_102 : decode cX12_run 102 = .ok (.istore_n 2, 1) := by decide +kernel
theorem dX12_run_103 : decode cX12_run 103 = .ok (.aload_n 0, 1) := by decide +kernel
theorem dX12_run_104 : decode cX12_run 104 = .ok (.iload_n 1, 1) := by decide +kernel
theorem dX12_run_105 : decode cX12_run 105 = .ok (.iconst 3, 1) := by decide +kernel
theorem dX12_run_106 : decode cX12_run 106 = .ok (.iadd, 1) := by decide +kernel
theorem dX12_run_107 : decode cX12_run 107 = .ok (.invokevirtual 513, 3) := by decide +kernel
theorem dX12_run_110 : decode cX12_run 110 = .ok (.istore_n 3, 1) := by decide +kernel
theorem dX12_run_111 : decode cX12_run 111 = .ok (.aload_n 0, 1) := by decide +kernel
theorem dX12_run_112 : decode cX12_run 112 = .ok (.getfield 504, 3) := by decide +kernel
theorem dX12_run_115 : decode cX12_run 115 = .ok (.ifCond .eq 6, 3) := by decide +kernel
theorem dX12_run_118 : decode cX12_run 118 = .ok (.bipush (-3), 2) := by decide +kernel
theorem dX12_run_120 : decode cX12_run 120 = .ok (.ireturn, 1) := by decide +kernel
theorem dX12_run_121 : decode cX12_run 121 = .ok (.aload_n 0, 1) := by decide +kernel
theorem dX12_run_122 : decode cX12_run 122 = .ok (.aload_n 0, 1) := by decide +kernel
theorem dX12_run_123 : decode cX12_run 123 = .ok (.getfield 149, 3) := by decide +kernel
theorem dX12_run_126 : decode cX12_run 126 = .ok (.iload_n 1, 1) := by decide +kernel
theorem dX12_run_127 : decode cX12_run 127 = .ok (.iaload, 1) := by decide +kernel
theorem dX12_run_128 : decode cX12_run 128 = .ok (.iload_n 2, 1) := by decide +kernel
theorem dX12_run_129 : decode cX12_run 129 = .ok (.iload_n 3, 1) := by decide +kernel
theorem dX12_run_130 : decode cX12_run 130 = .ok (.invokevirtual 516, 3) := by decide +kernel
theorem dX12_run_133 : decode cX12_run 133 = .ok (.istore 4, 2) := by decide +kernel
theorem dX12_run_135 : decode cX12_run 135 = .ok (.iload 4, 2) := by decide +kernel
theorem dX12_run_137 : decode cX12_run 137 = .ok (.ifCond .ge 6, 3) := by decide +kernel
theorem dX12_run_140 : decode cX12_run 140 = .ok (.bipush (-3), 2) := by decide +kernel
theorem dX12_run_142 : decode cX12_run 142 = .ok (.ireturn, 1) := by decide +kernel
theorem dX12_run_143 : decode cX12_run 143 = .ok (.aload_n 0, 1) := by decide +kernel
theorem dX12_run_144 : decode cX12_run 144 = .ok (.aload_n 0, 1) := by decide +kernel
theorem dX12_run_145 : decode cX12_run 145 = .ok (.getfield 149, 3) := by decide +kernel
theorem dX12_run_148 : decode cX12_run 148 = .ok (.iload_n 1, 1) := by decide +kernel
theorem dX12_run_149 : decode cX12_run 149 = .ok (.iaload, 1) := by decide +kernel
theorem dX12_run_150 : decode cX12_run 150 = .ok (.iconst 1, 1) := by decide +kernel
theorem dX12_run_151 : decode cX12_run 151 = .ok (.if_icmp .ne 8, 3) := by decide +kernel
theorem dX12_run_154 : decode cX12_run 154 = .ok (.iload 4, 2) := by decide +kernel
theorem dX12_run_156 : decode cX12_run 156 = .ok (.goto 7, 3) := by decide +kernel
theorem dX12_run_159 : decode cX12_run 159 = .ok (.aload_n 0, 1) := by decide +kernel
theorem dX12_run_160 : decode cX12_run 160 = .ok (.getfield 510, 3) := by decide +kernel
theorem dX12_run_163 : decode cX12_run 163 = .ok (.putfield 510, 3) := by decide +kernel
theorem dX12_run_166 : decode cX12_run 166 = .ok (.aload_n 0, 1) := by decide +kernel
theorem dX12_run_167 : decode cX12_run 167 = .ok (.dup, 1) := by decide +kernel
theorem dX12_run_168 : decode cX12_run 168 = .ok (.getfield 507, 3) := by decide +kernel
theorem dX12_run_171 : decode cX12_run 171 = .ok (.iconst 1, 1) := by decide +kernel
theorem dX12_run_172 : decode cX12_run 172 = .ok (.iadd, 1) := by decide +kernel
theorem dX12_run_173 : decode cX12_run 173 = .ok (.putfield 507, 3) := by decide +kernel
theorem dX12_run_176 : decode cX12_run 176 = .ok (.iconst 0, 1) := by decide +kernel
theorem dX12_run_177 : decode cX12_run 177 = .ok (.ireturn, 1) := by decide +kernel
theorem dX12_orders_0 : decode cX12_orders 0 = .ok (.aload_n 0, 1) := by decide +kernel
theorem dX12_orders_1 : decode cX12_orders 1 = .ok (.iconst 0, 1) := by decide +kernel
theorem dX12_orders_2 : decode cX12_orders 2 = .ok (.putfield 161, 3) := by decide +kernel
theorem dX12_orders_5 : decode cX12_orders 5 = .ok (.aload_n 0, 1) := by decide +kernel
theorem dX12_orders_6 : decode cX12_orders 6 = .ok (.iconst (-1), 1) := by decide +kernel
theorem dX12_orders_7 : decode cX12_orders 7 = .ok (.putfield 152, 3) := by decide +kernel
theorem dX12_orders_10 : decode cX12_orders 10 = .ok (.aload_n 0, 1) := by decide +kernel
theorem dX12_orders_11 : decode cX12_orders 11 = .ok (.iconst 1, 1) := by decide +kernel
theorem dX12_orders_12 : decode cX12_orders 12 = .ok (.invokevirtual 401, 3) := by decide +kernel
theorem dX12_orders_15 : decode cX12_orders 15 = .ok (.aload_n 0, 1) := by decide +kernel
theorem dX12_orders_16 : decode cX12_orders 16 = .ok (.invokevirtual 519, 3) := by decide +kernel
theorem dX12_orders_19 : decode cX12_orders 19 = .ok (.aload_n 0, 1) := by decide +kernel
theorem dX12_orders_20 : decode cX12_orders 20 = .ok (.getfield 260, 3) := by decide +kernel
theorem dX12_orders_23 : decode cX12_orders 23 = .ok (.ifCond .ne 23, 3) := by decide +kernel
theorem dX12_orders_26 : decode cX12_orders 26 = .ok (.aload_n 0, 1) := by decide +kernel
theorem dX12_orders_27 : decode cX12_orders 27 = .ok (.bipush 59, 2) := by decide +kernel
theorem dX12_orders_29 : decode cX12_orders 29 = .ok (.invokevirtual 331, 3) := by decide +kernel
theorem dX12_orders_32 : decode cX12_orders 32 = .ok (.ifCond .eq 14, 3) := by decide +kernel
theorem dX12_orders_35 : decode cX12_orders 35 = .ok (.aload_n 0, 1) := by decide +kernel
theorem dX12_orders_36 : decode cX12_orders 36 = .ok (.invokevirtual 264, 3) := by decide +kernel
theorem dX12_orders_39 : decode cX12_orders 39 = .ok (.aload_n 0, 1) := by decide +kernel
theorem dX12_orders_40 : decode cX12_orders 40 = .ok (.invokevirtual 519, 3) := by decide +kernel
theorem dX12_orders_43 : decode cX12_orders 43 = .ok (.goto (-24), 3) := by decide +kernel
theorem dX12_orders_46 : decode cX12_orders 46 = .ok (.aload_n 0, 1) := by decide +kernel
theorem dX12_orders_47 : decode cX12_orders 47 = .ok (.invokevirtual 407, 3) := by decide +kernel
theorem dX12_orders_50 : decode cX12_orders 50 = .ok (.aload_n 0, 1) := by decide +kernel
theorem dX12_orders_51 : decode cX12_orders 51 = .ok (.getfield 260, 3) := by decide +kernel
theorem dX12_orders_54 : decode cX12_orders 54 = .ok (.ifCond .eq 10, 3) := by decide +kernel
theorem dX12_orders_57 : decode cX12_orders 57 = .ok (.aload_n 0, 1) := by decide +kernel
theorem dX12_orders_58 : decode cX12_orders 58 = .ok (.bipush (-6), 2) := by decide +kernel
theorem dX12_orders_60 : decode cX12_orders 60 = .ok (.invokevirtual 170, 3) := by decide +kernel
theorem dX12_orders_63 : decode cX12_orders 63 = .ok (.ireturn, 1) := by decide +kernel
theorem dX12_orders_64 : decode cX12_orders 64 = .ok (.aload_n 0, 1) := by decide +kernel
theorem dX12_orders_65 : decode cX12_orders 65 = .ok (.bipush 17, 2) := by decide +kernel
theorem dX12_orders_67 : decode cX12_orders 67 = .ok (.invokevirtual 174, 3) := by decide +kernel
theorem dX12_orders_70 : decode cX12_orders 70 = .ok (.aload_n 0, 1) := by decide +kernel
theorem dX12_orders_71 : decode cX12_orders 71 = .ok (.getfield 167, 3) := by decide +kernel
theorem dX12_orders_74 : decode cX12_orders 74 = .ok (.istore_n 1, 1) := by decide +kernel
theorem dX12_orders_75 : decode cX12_orders 75 = .ok (.iconst 0, 1) := by decide +kernel
theorem dX12_orders_76 : decode cX12_orders 76 = .ok (.istore_n 2, 1) := by decide +kernel
theorem dX12_orders_77 : decode cX12_orders 77 = .ok (.iload_n 2, 1) := by decide +kernel
theorem dX12_orders_78 : decode cX12_orders 78 = .ok (.sipush 528, 3) := by decide +kernel
theorem dX12_orders_81 : decode cX12_orders 81 = .ok (.if_icmp .ge 21, 3) := by decide +kernel
theorem dX12_orders_84 : decode cX12_orders 84 = .ok (.aload_n 0, 1) := by decide +kernel
theorem dX12_orders_85 : decode cX12_orders 85 = .ok (.getfield 29, 3) := by decide +kernel
theorem dX12_orders_88 : decode cX12_orders 88 = .ok (.iload_n 2, 1) := by decide +kernel
theorem dX12_orders_89 : decode cX12_orders 89 = .ok (.aload_n 0, 1) := by decide +kernel
theorem dX12_orders_90 : decode cX12_orders 90 = .ok (.getfield 23, 3) := by decide +kernel
theorem dX12_orders_93 : decode cX12_orders 93 = .ok (.iload_n 2, 1) := by decide +kernel
theorem dX12_orders_94 : decode cX12_orders 94 = .ok (.iaload, 1) := by decide +kernel
theorem dX12_orders_95 : decode cX12_orders 95 = .ok (.iastore, 1) := by decide +kernel
theorem dX12_orders_96 : decode cX12_orders 96 = .ok (.iinc 2 1, 3) := by decide +kernel
theorem dX12_orders_99 : decode cX12_orders 99 = .ok (.goto (-22), 3) := by decide +kernel
theorem dX12_orders_102 : decode cX12_orders 102 = .ok (.iconst 0, 1) := by decide +kernel
theorem dX12_orders_103 : decode cX12_orders 103 = .ok (.istore_n 2, 1) := by decide +kernel
theorem dX12_orders_104 : decode cX12_orders 104 = .ok (.iload_n 2, 1) := by decide +kernel
theorem dX12_orders_105 : decode cX12_orders 105 = .ok (.bipush 16, 2) := by decide +kernel
theorem dX12_orders_107 : decode cX12_orders 107 = .ok (.if_icmp .ge 21, 3) := by decide +kernel
theorem dX12_orders_110 : decode cX12_orders 110 = .ok (.aload_n 0, 1) := by decide +kernel
theorem dX12_orders_111 : decode cX12_orders 111 = .ok (.getfield 32, 3) := by decide +kernel
theorem dX12_orders_114 : decode cX12_orders 114 = .ok (.iload_n 2, 1) := by decide +kernel
theorem dX12_orders_115 : decode cX12_orders 115 = .ok (.aload_n 0, 1) := by decide +kernel
theorem dX12_orders_116 : decode cX12_orders 116 = .ok (.getfield 26, 3) := by decide +kernel
theorem dX12_orders_119 : decode cX12_orders 119 = .ok (.iload_n 2, 1) := by decide +kernel
theorem dX12_orders_120 : decode cX12_orders 120 = .ok (.iaload, 1) := by decide +kernel
theorem dX12_orders_121 : decode cX12_orders 121 = .ok (.iastore, 1) := by decide +kernel
theorem dX12_orders_122 : decode cX12_orders 122 = .ok (.iinc 2 1, 3) := by decide +kernel
theorem dX12_orders_125 : decode cX12_orders 125 = .ok (.goto (-21), 3) := by decide +kernel
theorem dX12_orders_128 : decode cX12_orders 128 = .ok (.aload_n 0, 1) := by decide +kernel
theorem dX12_orders_129 : decode cX12_orders 129 = .ok (.iconst 0, 1) := by decide +kernel
theorem dX12_orders_130 : decode cX12_orders 130 = .ok (.putfield 507, 3) := by decide +kernel
theorem dX12_orders_133 : decode cX12_orders 133 = .ok (.aload_n 0, 1) := by decide +kernel
theorem dX12_orders_134 : decode cX12_orders 134 = .ok (.iconst (-1), 1) := by decide +kernel
theorem dX12_orders_135 : decode cX12_orders 135 = .ok (.putfield 510, 3) := by decide +kernel
theorem dX12_orders_138 : decode cX12_orders 138 = .ok (.iconst 0, 1) := by decide +kernel
theorem dX12_orders_139 : decode cX12_orders 139 = .ok (.istore_n 2, 1) := by decide +kernel
theorem dX12_orders_140 : decode cX12_orders 140 = .ok (.iload_n 2, 1) := by decide +kernel
theorem dX12_orders_141 : decode cX12_orders 141 = .ok (.aload_n 0, 1) := by decide +kernel
theorem dX12_orders_142 : decode cX12_orders 142 = .ok (.getfield 393, 3) := by decide +kernel
theorem dX12_orders_145 : decode cX12_orders 145 = .ok (.if_icmp .ge 61, 3) := by decide +kernel
theorem dX12_orders_148 : decode cX12_orders 148 = .ok (.iconst 0, 1) := by decide +kernel
theorem dX12_orders_149 : decode cX12_orders 149 = .ok (.istore_n 3, 1) := by decide +kernel
theorem dX12_orders_150 : decode cX12_orders 150 = .ok (.iload_n 3, 1) := by decide +kernel
theorem dX12_orders_151 : decode cX12_orders 151 = .ok (.aload_n 0, 1) := by decide +kernel
theorem dX12_orders_152 : decode cX12_orders 152 = .ok (.getfield 149, 3) := by decide +kernel
theorem dX12_orders_155 : decode cX12_orders 155 = .ok (.bipush 8, 2) := by decide +kernel
theorem dX12_orders_157 : decode cX12_orders 157 = .ok (.iload_n 2, 1) := by decide +kernel
theorem dX12_orders_158 : decode cX12_orders 158 = .ok (.imul, 1) := by decide +kernel
theorem dX12_orders_159 : decode cX12_orders 159 = .ok (.bipush 7, 2) := by decide +kernel
theorem dX12_orders_161 : decode cX12_orders 161 = .ok (.iadd, 1) := by decide +kernel
theorem dX12_orders_162 : decode cX12_orders 162 = .ok (.iaload, 1) := by decide +kernel
theorem dX12_orders_163 : decode cX12_orders 163 = .ok (.if_icmp .ge 37, 3) := by decide +kernel
theorem dX12_orders_166 : decode cX12_orders 166 = .ok (.aload_n 0, 1) := by decide +kernel
theorem dX12_orders_167 : decode cX12_orders 167 = .ok (.bipush 8, 2) := by decide +kernel
theorem dX12_orders_169 : decode cX12_orders 169 = .ok (.iload_n 2, 1) := by decide +kernel
theorem dX12_orders_170 : decode cX12_orders 170 = .ok (.imul, 1) := by decide +kernel
theorem dX12_orders_171 : decode cX12_orders 171 = .ok (.invokevirtual 522, 3) := by decide +kernel
theorem dX12_orders_174 : decode cX12_orders 174 = .ok (.ifCond .ge 20, 3) := by decide +kernel
theorem dX12_orders_177 : decode cX12_orders 177 = .ok (.aload_n 0, 1) := by decide +kernel
theorem dX12_orders_178 : decode cX12_orders 178 = .ok (.iload_n 1, 1) := by decide +kernel
theorem dX12_orders_179 : decode cX12_orders 179 = .ok (.invokevirtual 525, 3) := by decide +kernel
theorem dX12_orders_182 : decode cX12_orders 182 = .ok (.aload_n 0, 1) := by decide +kernel
theorem dX12_orders_183 : decode cX12_orders 183 = .ok (.iload_n 2, 1) := by decide +kernel
theorem dX12_orders_184 : decode cX12_orders 184 = .ok (.putfield 152, 3) := by decide +kernel
theorem dX12_orders_187 : decode cX12_orders 187 = .ok (.aload_n 0, 1) := by decide +kernel
theorem dX12_orders_188 : decode cX12_orders 188 = .ok (.bipush (-3), 2) := by decide +kernel
theorem dX12_orders_190 : decode cX12_orders 190 = .ok (.invokevirtual 170, 3) := by decide +kernel
theorem dX12_orders_193 : decode cX12_orders 193 = .ok (.ireturn, 1) := by decide +kernel
theorem dX12_orders_194 : decode cX12_orders 194 = .ok (.iinc 3 1, 3) := by decide +kernel
theorem dX12_orders_197 : decode cX12_orders 197 = .ok (.goto (-47), 3) := by decide +kernel
theorem dX12_orders_200 : decode cX12_orders 200 = .ok (.iinc 2 1, 3) := by decide +kernel
theorem dX12_orders_203 : decode cX12_orders 203 = .ok (.goto (-63), 3) := by decide +kernel
theorem dX12_orders_206 : decode cX12_orders 206 = .ok (.aload_n 0, 1) := by decide +kernel
theorem dX12_orders_207 : decode cX12_orders 207 = .ok (.aload_n 0, 1) := by decide +kernel
theorem dX12_orders_208 : decode cX12_orders 208 = .ok (.getfield 507, 3) := by decide +kernel
theorem dX12_orders_211 : decode cX12_orders 211 = .ok (.invokevirtual 170, 3) := by decide +kernel
theorem dX12_orders_214 : decode cX12_orders 214 = .ok (.ireturn, 1) := by decide +kernel
theorem dX12_giveBack_0 : decode cX12_giveBack 0 = .ok (.aload_n 0, 1) := by decide +kernel
theorem dX12_giveBack_1 : decode cX12_giveBack 1 = .ok (.bipush 17, 2) := by decide +kernel
theorem dX12_giveBack_3 : decode cX12_giveBack 3 = .ok (.invokevirtual 178, 3) := by decide +kernel
theorem dX12_giveBack_6 : decode cX12_giveBack 6 = .ok (.iconst 0, 1) := by decide +kernel
theorem dX12_giveBack_7 : decode cX12_giveBack 7 = .ok (.istore_n 2, 1) := by decide +kernel
theorem dX12_giveBack_8 : decode cX12_giveBack 8 = .ok (.iload_n 2, 1) := by decide +kernel
theorem dX12_giveBack_9 : decode cX12_giveBack 9 = .ok (.sipush 528, 3) := by decide +kernel
theorem dX12_giveBack_12 : decode cX12_giveBack 12 = .ok (.if_icmp .ge 21, 3) := by decide +kernel
theorem dX12_giveBack_15 : decode cX12_giveBack 15 = .ok (.aload_n 0, 1) := by decide +kernel
theorem dX12_giveBack_16 : decode cX12_giveBack 16 = .ok (.getfield 23, 3) := by decide +kernel
theorem dX12_giveBack_19 : decode cX12_giveBack 19 = .ok (.iload_n 2, 1) := by decide +kernel
theorem dX12_giveBack_20 : decode cX12_giveBack 20 = .ok (.aload_n 0, 1) := by decide +kernel
theorem dX12_giveBack_21 : decode cX12_giveBack 21 = .ok (.getfield 29, 3) := by decide +kernel
theorem dX12_giveBack_24 : decode cX12_giveBack 24 = .ok (.iload_n 2, 1) := by decide +kernel
theorem dX12_giveBack_25 : decode cX12_giveBack 25 = .ok (.iaload, 1) := by decide +kernel
theorem dX12_giveBack_26 : decode cX12_giveBack 26 = .ok (.iastore, 1) := by decide +kernel
theorem dX12_giveBack_27 : decode cX12_giveBack 27 = .ok (.iinc 2 1, 3) := by decide +kernel
theorem dX12_giveBack_30 : decode cX12_giveBack 30 = .ok (.goto (-22), 3) := by decide +kernel
theorem dX12_giveBack_33 : decode cX12_giveBack 33 = .ok (.iconst 0, 1) := by decide +kernel
theorem dX12_giveBack_34 : decode cX12_giveBack 34 = .ok (.istore_n 2, 1) := by decide +kernel
theorem dX12_giveBack_35 : decode cX12_giveBack 35 = .ok (.iload_n 2, 1) := by decide +kernel
theorem dX12_giveBack_36 : decode cX12_giveBack 36 = .ok (.bipush 16, 2) := by decide +kernel
theorem dX12_giveBack_38 : decode cX12_giveBack 38 = .ok (.if_icmp .ge 21, 3) := by decide +kernel
theorem dX12_giveBack_41 : decode cX12_giveBack 41 = .ok (.aload_n 0, 1) := by decide +kernel
theorem dX12_giveBack_42 : decode cX12_giveBack 42 = .ok (.getfield 26, 3) := by decide +kernel
theorem dX12_giveBack_45 : decode cX12_giveBack 45 = .ok (.iload_n 2, 1) := by decide +kernel
theorem dX12_giveBack_46 : decode cX12_giveBack 46 = .ok (.aload_n 0, 1) := by decide +kernel
theorem dX12_giveBack_47 : decode cX12_giveBack 47 = .ok (.getfield 32, 3) := by decide +kernel
theorem dX12_giveBack_50 : decode cX12_giveBack 50 = .ok (.iload_n 2, 1) := by decide +kernel
theorem dX12_giveBack_51 : decode cX12_giveBack 51 = .ok (.iaload, 1) := by decide +kernel
theorem dX12_giveBack_52 : decode cX12_giveBack 52 = .ok (.iastore, 1) := by decide +kernel
theorem dX12_giveBack_53 : decode cX12_giveBack 53 = .ok (.iinc 2 1, 3) := by decide +kernel
theorem dX12_giveBack_56 : decode cX12_giveBack 56 = .ok (.goto (-21), 3) := by decide +kernel
theorem dX12_giveBack_59 : decode cX12_giveBack 59 = .ok (.aload_n 0, 1) := by decide +kernel
theorem dX12_giveBack_60 : decode cX12_giveBack 60 = .ok (.iload_n 1, 1) := by decide +kernel
theorem dX12_giveBack_61 : decode cX12_giveBack 61 = .ok (.putfield 167, 3) := by decide +kernel
theorem dX12_giveBack_64 : decode cX12_giveBack 64 = .ok (.return_, 1) := by decide +kernel
theorem dX12_stopped_0 : decode cX12_stopped 0 = .ok (.aload_n 0, 1) := by decide +kernel
theorem dX12_stopped_1 : decode cX12_stopped 1 = .ok (.iconst 0, 1) := by decide +kernel
theorem dX12_stopped_2 : decode cX12_stopped 2 = .ok (.putfield 161, 3) := by decide +kernel
theorem dX12_stopped_5 : decode cX12_stopped 5 = .ok (.aload_n 0, 1) := by decide +kernel
theorem dX12_stopped_6 : decode cX12_stopped 6 = .ok (.getfield 152, 3) := by decide +kernel
theorem dX12_stopped_9 : decode cX12_stopped 9 = .ok (.ireturn, 1) := by decide +kernel
theorem dX12_draw_0 : decode cX12_draw 0 = .ok (.aload_n 0, 1) := by decide +kernel
theorem dX12_draw_1 : decode cX12_draw 1 = .ok (.aload_n 0, 1) := by decide +kernel
theorem dX12_draw_2 : decode cX12_draw 2 = .ok (.getfield 528, 3) := by decide +kernel
theorem dX12_draw_5 : decode cX12_draw 5 = .ok (.ldc2_w 531, 3) := by decide +kernel
theorem dX12_draw_8 : decode cX12_draw 8 = .ok (.lmul, 1) := by decide +kernel
theorem dX12_draw_9 : decode cX12_draw 9 = .ok (.ldc2_w 533, 3) := by decide +kernel
theorem dX12_draw_12 : decode cX12_draw 12 = .ok (.ladd, 1) := by decide +kernel
theorem dX12_draw_13 : decode cX12_draw 13 = .ok (.ldc2_w 535, 3) := by decide +kernel
theorem dX12_draw_16 : decode cX12_draw 16 = .ok (.lrem, 1) := by decide +kernel
theorem dX12_draw_17 : decode cX12_draw 17 = .ok (.putfield 528, 3) := by decide +kernel
theorem dX12_draw_20 : decode cX12_draw 20 = .ok (.aload_n 0, 1) := by decide +kernel
theorem dX12_draw_21 : decode cX12_draw 21 = .ok (.getfield 528, 3) := by decide +kernel
theorem dX12_draw_24 : decode cX12_draw 24 = .ok (.iload_n 1, 1) := by decide +kernel
theorem dX12_draw_25 : decode cX12_draw 25 = .ok (.i2l, 1) := by decide +kernel
theorem dX12_draw_26 : decode cX12_draw 26 = .ok (.lrem, 1) := by decide +kernel
theorem dX12_draw_27 : decode cX12_draw 27 = .ok (.l2i, 1) := by decide +kernel
theorem dX12_draw_28 : decode cX12_draw 28 = .ok (.ireturn, 1) := by decide +kernel
theorem dX12_lowestYet_0 : decode cX12_lowestYet 0 = .ok (.iconst 0, 1) := by decide +kernel
theorem dX12_lowestYet_1 : decode cX12_lowestYet 1 = .ok (.istore_n 2, 1) := by decide +kernel
theorem dX12_lowestYet_2 : decode cX12_lowestYet 2 = .ok (.iload_n 2, 1) := by decide +kernel
theorem dX12_lowestYet_3 : decode cX12_lowestYet 3 = .ok (.bipush 9, 2) := by decide +kernel
theorem dX12_lowestYet_5 : decode cX12_lowestYet 5 = .ok (.if_icmp .ge 25, 3) := by decide +kernel
theorem dX12_lowestYet_8 : decode cX12_lowestYet 8 = .ok (.aload_n 0, 1) := by decide +kernel
theorem dX12_lowestYet_9 : decode cX12_lowestYet 9 = .ok (.getfield 13, 3) := by decide +kernel
theorem dX12_lowestYet_12 : decode cX12_lowestYet 12 = .ok (.bipush 14, 2) := by decide +kernel
theorem dX12_lowestYet_14 : decode cX12_lowestYet 14 = .ok (.iload_n 1, 1) := by decide +kernel
theorem dX12_lowestYet_15 : decode cX12_lowestYet 15 = .ok (.iadd, 1) := by decide +kernel
theorem dX12_lowestYet_16 : decode cX12_lowestYet 16 = .ok (.iaload, 1) := by decide +kernel
theorem dX12_lowestYet_17 : decode cX12_lowestYet 17 = .ok (.iload_n 2, 1) := by decide +kernel
theorem dX12_lowestYet_18 : decode cX12_lowestYet 18 = .ok (.invokestatic 197, 3) := by decide +kernel
theorem dX12_lowestYet_21 : decode cX12_lowestYet 21 = .ok (.ifCond .ne 9, 3) := by decide +kernel
theorem dX12_lowestYet_24 : decode cX12_lowestYet 24 = .ok (.iinc 2 1, 3) := by decide +kernel
theorem dX12_lowestYet_27 : decode cX12_lowestYet 27 = .ok (.goto (-25), 3) := by decide +kernel
theorem dX12_lowestYet_30 : decode cX12_lowestYet 30 = .ok (.iload_n 2, 1) := by decide +kernel
theorem dX12_lowestYet_31 : decode cX12_lowestYet 31 = .ok (.ireturn, 1) := by decide +kernel
theorem dX12_years_0 : decode cX12_years 0 = .ok (.aload_n 0, 1) := by decide +kernel
theorem dX12_years_1 : decode cX12_years 1 = .ok (.iconst 0, 1) := by decide +kernel
theorem dX12_years_2 : decode cX12_years 2 = .ok (.putfield 161, 3) := by decide +kernel
theorem dX12_years_5 : decode cX12_years 5 = .ok (.iload_n 1, 1) := by decide +kernel
theorem dX12_years_6 : decode cX12_years 6 = .ok (.i2l, 1) := by decide +kernel
theorem dX12_years_7 : decode cX12_years 7 = .ok (.lconst 0, 1) := by decide +kernel
theorem dX12_years_8 : decode cX12_years 8 = .ok (.ldc2_w 289, 3) := by decide +kernel
theorem dX12_years_11 : decode cX12_years 11 = .ok (.invokestatic 181, 3) := by decide +kernel
theorem dX12_years_14 : decode cX12_years 14 = .ok (.ifCond .eq 15, 3) := by decide +kernel
theorem dX12_years_17 : decode cX12_years 17 = .ok (.iload_n 2, 1) := by decide +kernel
theorem dX12_years_18 : decode cX12_years 18 = .ok (.i2l, 1) := by decide +kernel
theorem dX12_years_19 : decode cX12_years 19 = .ok (.lconst 1, 1) := by decide +kernel
theorem dX12_years_20 : decode cX12_years 20 = .ok (.ldc2_w 478, 3) := by decide +kernel
theorem dX12_years_23 : decode cX12_years 23 = .ok (.invokestatic 181, 3) := by decide +kernel
theorem dX12_years_26 : decode cX12_years 26 = .ok (.ifCond .ne 9, 3) := by decide +kernel
theorem dX12_years_29 : decode cX12_years 29 = .ok (.aload_n 0, 1) := by decide +kernel
theorem dX12_years_30 : decode cX12_years 30 = .ok (.iconst (-1), 1) := by decide +kernel
theorem dX12_years_31 : decode cX12_years 31 = .ok (.invokevirtual 170, 3) := by decide +kernel
theorem dX12_years_34 : decode cX12_years 34 = .ok (.ireturn, 1) := by decide +kernel
theorem dX12_years_35 : decode cX12_years 35 = .ok (.aload_n 0, 1) := by decide +kernel
theorem dX12_years_36 : decode cX12_years 36 = .ok (.getfield 13, 3) := by decide +kernel
theorem dX12_years_39 : decode cX12_years 39 = .ok (.iconst 0, 1) := by decide +kernel
theorem dX12_years_40 : decode cX12_years 40 = .ok (.iaload, 1) := by decide +kernel
theorem dX12_years_41 : decode cX12_years 41 = .ok (.ifCond .ne 10, 3) := by decide +kernel
theorem dX12_years_44 : decode cX12_years 44 = .ok (.aload_n 0, 1) := by decide +kernel
theorem dX12_years_45 : decode cX12_years 45 = .ok (.bipush (-3), 2) := by decide +kernel
theorem dX12_years_47 : decode cX12_years 47 = .ok (.invokevirtual 170, 3) := by decide +kernel
theorem dX12_years_50 : decode cX12_years 50 = .ok (.ireturn, 1) := by decide +kernel
theorem dX12_years_51 : decode cX12_years 51 = .ok (.aload_n 0, 1) := by decide +kernel
theorem dX12_years_52 : decode cX12_years 52 = .ok (.bipush 16, 2) := by decide +kernel
theorem dX12_years_54 : decode cX12_years 54 = .ok (.invokevirtual 174, 3) := by decide +kernel
theorem dX12_years_57 : decode cX12_years 57 = .ok (.aload_n 0, 1) := by decide +kernel
theorem dX12_years_58 : decode cX12_years 58 = .ok (.iload_n 1, 1) := by decide +kernel
theorem dX12_years_59 : decode cX12_years 59 = .ok (.i2l, 1) := by decide +kernel
theorem dX12_years_60 : decode cX12_years 60 = .ok (.putfield 528, 3) := by decide +kernel
theorem dX12_years_63 : decode cX12_years 63 = .ok (.iconst 0, 1) := by decide +kernel
theorem dX12_years_64 : decode cX12_years 64 = .ok (.istore_n 3, 1) := by decide +kernel
theorem dX12_years_65 : decode cX12_years 65 = .ok (.iconst 0, 1) := by decide +kernel
theorem dX12_years_66 : decode cX12_years 66 = .ok (.istore 4, 2) := by decide +kernel
theorem dX12_years_68 : decode cX12_years 68 = .ok (.iload 4, 2) := by decide +kernel
theorem dX12_years_70 : decode cX12_years 70 = .ok (.iload_n 2, 1) := by decide +kernel
theorem dX12_years_71 : decode cX12_years 71 = .ok (.if_icmp .ge 100, 3) := by decide +kernel
theorem dX12_years_74 : decode cX12_years 74 = .ok (.aload_n 0, 1) := by decide +kernel
theorem dX12_years_75 : decode cX12_years 75 = .ok (.getfield 13, 3) := by decide +kernel
theorem dX12_years_78 : decode cX12_years 78 = .ok (.iconst 5, 1) := by decide +kernel
theorem dX12_years_79 : decode cX12_years 79 = .ok (.iaload, 1) := by decide +kernel
theorem dX12_years_80 : decode cX12_years 80 = .ok (.sipush 999, 3) := by decide +kernel
theorem dX12_years_83 : decode cX12_years 83 = .ok (.if_icmp .ge 88, 3) := by decide +kernel
theorem dX12_years_86 : decode cX12_years 86 = .ok (.iconst 0, 1) := by decide +kernel
theorem dX12_years_87 : decode cX12_years 87 = .ok (.istore 5, 2) := by decide +kernel
theorem dX12_years_89 : decode cX12_years 89 = .ok (.iload 5, 2) := by decide +kernel
theorem dX12_years_91 : decode cX12_years 91 = .ok (.aload_n 0, 1) := by decide +kernel
theorem dX12_years_92 : decode cX12_years 92 = .ok (.getfield 13, 3) := by decide +kernel
theorem dX12_years_95 : decode cX12_years 95 = .ok (.iconst 0, 1) := by decide +kernel
theorem dX12_years_96 : decode cX12_years 96 = .ok (.iaload, 1) := by decide +kernel
theorem dX12_years_97 : decode cX12_years 97 = .ok (.if_icmp .ge 64, 3) := by decide +kernel
theorem dX12_years_100 : decode cX12_years 100 = .ok (.aload_n 0, 1) := by decide +kernel
theorem dX12_years_101 : decode cX12_years 101 = .ok (.iload 5, 2) := by decide +kernel
theorem dX12_years_103 : decode cX12_years 103 = .ok (.invokevirtual 193, 3) := by decide +kernel
theorem dX12_years_106 : decode cX12_years 106 = .ok (.ifCond .eq 49, 3) := by decide +kernel
theorem dX12_years_109 : decode cX12_years 109 = .ok (.aload_n 0, 1) := by decide +kernel
theorem dX12_years_110 : decode cX12_years 110 = .ok (.bipush 10, 2) := by decide +kernel
theorem dX12_years_112 : decode cX12_years 112 = .ok (.invokevirtual 537, 3) := by decide +kernel
theorem dX12_years_115 : decode cX12_years 115 = .ok (.aload_n 0, 1) := by decide +kernel
theorem dX12_years_116 : decode cX12_years 116 = .ok (.iload 5, 2) := by decide +kernel
theorem dX12_years_118 : decode cX12_years 118 = .ok (.aload_n 0, 1) := by decide +kernel
theorem dX12_years_119 : decode cX12_years 119 = .ok (.getfield 13, 3) := by decide +kernel
theorem dX12_years_122 : decode cX12_years 122 = .ok (.bipush 8, 2) := by decide +kernel
theorem dX12_years_124 : decode cX12_years 124 = .ok (.iload 5, 2) := by decide +kernel
theorem dX12_years_126 : decode cX12_years 126 = .ok (.iadd, 1) := by decide +kernel
theorem dX12_years_127 : decode cX12_years 127 = .ok (.iaload, 1) := by decide +kernel
theorem dX12_years_128 : decode cX12_years 128 = .ok (.aload_n 0, 1) := by decide +kernel
theorem dX12_years_129 : decode cX12_years 129 = .ok (.iload 5, 2) := by decide +kernel
theorem dX12_years_131 : decode cX12_years 131 = .ok (.invokevirtual 213, 3) := by decide +kernel
theorem dX12_years_134 : decode cX12_years 134 = .ok (.invokevirtual 219, 3) := by decide +kernel
theorem dX12_years_137 : decode cX12_years 137 = .ok (.if_icmp .ge 18, 3) := by decide +kernel
theorem dX12_years_140 : decode cX12_years 140 = .ok (.aload_n 0, 1) := by decide +kernel
theorem dX12_years_141 : decode cX12_years 141 = .ok (.iload 5, 2) := by decide +kernel
theorem dX12_years_143 : decode cX12_years 143 = .ok (.aload_n 0, 1) := by decide +kernel
theorem dX12_years_144 : decode cX12_years 144 = .ok (.iload 5, 2) := by decide +kernel
theorem dX12_years_146 : decode cX12_years 146 = .ok (.invokevirtual 540, 3) := by decide +kernel
theorem dX12_years_149 : decode cX12_years 149 = .ok (.invokevirtual 456, 3) := by decide +kernel
theorem dX12_years_152 : decode cX12_years 152 = .ok (.iinc 3 1, 3) := by decide +kernel
theorem dX12_years_155 : decode cX12_years 155 = .ok (.iinc 5 1, 3) := by decide +kernel
theorem dX12_years_158 : decode cX12_years 158 = .ok (.goto (-69), 3) := by decide +kernel
theorem dX12_years_161 : decode cX12_years 161 = .ok (.aload_n 0, 1) := by decide +kernel
theorem dX12_years_162 : decode cX12_years 162 = .ok (.invokevirtual 465, 3) := by decide +kernel
theorem dX12_years_165 : decode cX12_years 165 = .ok (.iinc 4 1, 3) := by decide +kernel
theorem dX12_years_168 : decode cX12_years 168 = .ok (.goto (-100), 3) := by decide +kernel
theorem dX12_years_171 : decode cX12_years 171 = .ok (.aload_n 0, 1) := by decide +kernel
theorem dX12_years_172 : decode cX12_years 172 = .ok (.aload_n 0, 1) := by decide +kernel
theorem dX12_years_173 : decode cX12_years 173 = .ok (.getfield 13, 3) := by decide +kernel
theorem dX12_years_176 : decode cX12_years 176 = .ok (.iconst 0, 1) := by decide +kernel
theorem dX12_years_177 : decode cX12_years 177 = .ok (.iaload, 1) := by decide +kernel
theorem dX12_years_178 : decode cX12_years 178 = .ok (.putfield 158, 3) := by decide +kernel
theorem dX12_years_181 : decode cX12_years 181 = .ok (.iconst 0, 1) := by decide +kernel
theorem dX12_years_182 : decode cX12_years 182 = .ok (.istore 4, 2) := by decide +kernel
theorem dX12_years_184 : decode cX12_years 184 = .ok (.iload 4, 2) := by decide +kernel
theorem dX12_years_186 : decode cX12_years 186 = .ok (.aload_n 0, 1) := by decide +kernel
theorem dX12_years_187 : decode cX12_years 187 = .ok (.getfield 158, 3) := by decide +kernel
theorem dX12_years_190 : decode cX12_years 190 = .ok (.if_icmp .ge 69, 3) := by decide +kernel
theorem dX12_years_193 : decode cX12_years 193 = .ok (.aload_n 0, 1) := by decide +kernel
theorem dX12_years_194 : decode cX12_years 194 = .ok (.getfield 155, 3) := by decide +kernel
theorem dX12_years_197 : decode cX12_years 197 = .ok (.iload 4, 2) := by decide +kernel
theorem dX12_years_199 : decode cX12_years 199 = .ok (.aload_n 0, 1) := by decide +kernel
theorem dX12_years_200 : decode cX12_years 200 = .ok (.getfield 13, 3) := by decide +kernel
theorem dX12_years_203 : decode cX12_years 203 = .ok (.bipush 8, 2) := by decide +kernel
theorem dX12_years_205 : decode cX12_years 205 = .ok (.iload 4, 2) := by decide +kernel
theorem dX12_years_207 : decode cX12_years 207 = .ok (.iadd, 1) := by decide +kernel
theorem dX12_years_208 : decode cX12_years 208 = .ok (.iaload, 1) := by decide +kernel
theorem dX12_years_209 : decode cX12_years 209 = .ok (.iastore, 1) := by decide +kernel
theorem dX12_years_210 : decode cX12_years 210 = .ok (.aload_n 0, 1) := by decide +kernel
theorem dX12_years_211 : decode cX12_years 211 = .ok (.getfield 155, 3) := by decide +kernel
theorem dX12_years_214 : decode cX12_years 214 = .ok (.bipush 6, 2) := by decide +kernel
theorem dX12_years_216 : decode cX12_years 216 = .ok (.iload 4, 2) := by decide +kernel
theorem dX12_years_218 : decode cX12_years 218 = .ok (.iadd, 1) := by decide +kernel
theorem dX12_years_219 : decode cX12_years 219 = .ok (.aload_n 0, 1) := by decide +kernel
theorem dX12_years_220 : decode cX12_years 220 = .ok (.getfield 13, 3) := by decide +kernel
theorem dX12_years_223 : decode cX12_years 223 = .ok (.bipush 14, 2) := by decide +kernel
theorem dX12_years_225 : decode cX12_years 225 = .ok (.iload 4, 2) := by decide +kernel
theorem dX12_years_227 : decode cX12_years 227 = .ok (.iadd, 1) := by decide +kernel
theorem dX12_years_228 : decode cX12_years 228 = .ok (.iaload, 1) := by decide +kernel
theorem dX12_years_229 : decode cX12_years 229 = .ok (.invokestatic 190, 3) := by decide +kernel
theorem dX12_years_232 : decode cX12_years 232 = .ok (.iastore, 1) := by decide +kernel
theorem dX12_years_233 : decode cX12_years 233 = .ok (.aload_n 0, 1) := by decide +kernel
theorem dX12_years_234 : decode cX12_years 234 = .ok (.getfield 155, 3) := by decide +kernel
theorem dX12_years_237 : decode cX12_years 237 = .ok (.bipush 12, 2) := by decide +kernel
theorem dX12_years_239 : decode cX12_years 239 = .ok (.iload 4, 2) := by decide +kernel
theorem dX12_years_241 : decode cX12_years 241 = .ok (.iadd, 1) := by decide +kernel
theorem dX12_years_242 : decode cX12_years 242 = .ok (.aload_n 0, 1) := by decide +kernel
theorem dX12_years_243 : decode cX12_years 243 = .ok (.getfield 13, 3) := by decide +kernel
theorem dX12_years_246 : decode cX12_years 246 = .ok (.bipush 26, 2) := by decide +kernel
theorem dX12_years_248 : decode cX12_years 248 = .ok (.iload 4, 2) := by decide +kernel
theorem dX12_years_250 : decode cX12_years 250 = .ok (.iadd, 1) := by decide +kernel
theorem dX12_years_251 : decode cX12_years 251 = .ok (.iaload, 1) := by decide +kernel
theorem dX12_years_252 : decode cX12_years 252 = .ok (.iastore, 1) := by decide +kernel
theorem dX12_years_253 : decode cX12_years 253 = .ok (.iinc 4 1, 3) := by decide +kernel
theorem dX12_years_256 : decode cX12_years 256 = .ok (.goto (-72), 3) := by decide +kernel
theorem dX12_years_259 : decode cX12_years 259 = .ok (.aload_n 0, 1) := by decide +kernel
theorem dX12_years_260 : decode cX12_years 260 = .ok (.bipush 16, 2) := by decide +kernel
theorem dX12_years_262 : decode cX12_years 262 = .ok (.invokevirtual 178, 3) := by decide +kernel
theorem dX12_years_265 : decode cX12_years 265 = .ok (.aload_n 0, 1) := by decide +kernel
theorem dX12_years_266 : decode cX12_years 266 = .ok (.iload_n 3, 1) := by decide +kernel
theorem dX12_years_267 : decode cX12_years 267 = .ok (.invokevirtual 170, 3) := by decide +kernel
theorem dX12_years_270 : decode cX12_years 270 = .ok (.ireturn, 1) := by decide +kernel
theorem dX12_drawn_0 : decode cX12_drawn 0 = .ok (.aload_n 0, 1) := by decide +kernel
theorem dX12_drawn_1 : decode cX12_drawn 1 = .ok (.iconst 0, 1) := by decide +kernel
theorem dX12_drawn_2 : decode cX12_drawn 2 = .ok (.putfield 161, 3) := by decide +kernel
theorem dX12_drawn_5 : decode cX12_drawn 5 = .ok (.iload_n 1, 1) := by decide +kernel
theorem dX12_drawn_6 : decode cX12_drawn 6 = .ok (.i2l, 1) := by decide +kernel
theorem dX12_drawn_7 : decode cX12_drawn 7 = .ok (.lconst 0, 1) := by decide +kernel
theorem dX12_drawn_8 : decode cX12_drawn 8 = .ok (.aload_n 0, 1) := by decide +kernel
theorem dX12_drawn_9 : decode cX12_drawn 9 = .ok (.getfield 158, 3) := by decide +kernel
theorem dX12_drawn_12 : decode cX12_drawn 12 = .ok (.i2l, 1) := by decide +kernel
theorem dX12_drawn_13 : decode cX12_drawn 13 = .ok (.lconst 1, 1) := by decide +kernel
theorem dX12_drawn_14 : decode cX12_drawn 14 = .ok (.lsub, 1) := by decide +kernel
theorem dX12_drawn_15 : decode cX12_drawn 15 = .ok (.invokestatic 181, 3) := by decide +kernel
theorem dX12_drawn_18 : decode cX12_drawn 18 = .ok (.ifCond .eq 29, 3) := by decide +kernel
theorem dX12_drawn_21 : decode cX12_drawn 21 = .ok (.iload_n 2, 1) := by decide +kernel
theorem dX12_drawn_22 : decode cX12_drawn 22 = .ok (.i2l, 1) := by decide +kernel
theorem dX12_drawn_23 : decode cX12_drawn 23 = .ok (.lconst 0, 1) := by decide +kernel
theorem dX12_drawn_24 : decode cX12_drawn 24 = .ok (.ldc2_w 353, 3) := by decide +kernel
theorem dX12_drawn_27 : decode cX12_drawn 27 = .ok (.invokestatic 181, 3) := by decide +kernel
theorem dX12_drawn_30 : decode cX12_drawn 30 = .ok (.ifCond .eq 17, 3) := by decide +kernel
theorem dX12_drawn_33 : decode cX12_drawn 33 = .ok (.aload_n 0, 1) := by decide +kernel
theorem dX12_drawn_34 : decode cX12_drawn 34 = .ok (.getfield 155, 3) := by decide +kernel
theorem dX12_drawn_37 : decode cX12_drawn 37 = .ok (.bipush 6, 2) := by decide +kernel
theorem dX12_drawn_39 : decode cX12_drawn 39 = .ok (.iload_n 2, 1) := by decide +kernel
theorem dX12_drawn_40 : decode cX12_drawn 40 = .ok (.imul, 1) := by decide +kernel
theorem dX12_drawn_41 : decode cX12_drawn 41 = .ok (.iload_n 1, 1) := by decide +kernel
theorem dX12_drawn_42 : decode cX12_drawn 42 = .ok (.iadd, 1) := by decide +kernel
theorem dX12_drawn_43 : decode cX12_drawn 43 = .ok (.iaload, 1) := by decide +kernel
theorem dX12_drawn_44 : decode cX12_drawn 44 = .ok (.goto 4, 3) := by decide +kernel
theorem dX12_drawn_47 : decode cX12_drawn 47 = .ok (.iconst (-1), 1) := by decide +kernel
theorem dX12_drawn_48 : decode cX12_drawn 48 = .ok (.ireturn, 1) := by decide +kernel
theorem dX12_count_0 : decode cX12_count 0 = .ok (.aload_n 0, 1) := by decide +kernel
theorem dX12_count_1 : decode cX12_count 1 = .ok (.iconst 0, 1) := by decide +kernel
theorem dX12_count_2 : decode cX12_count 2 = .ok (.putfield 161, 3) := by decide +kernel
theorem dX12_count_5 : decode cX12_count 5 = .ok (.iconst 0, 1) := by decide +kernel
theorem dX12_count_6 : decode cX12_count 6 = .ok (.istore_n 2, 1) := by decide +kernel
theorem dX12_count_7 : decode cX12_count 7 = .ok (.iconst 0, 1) := by decide +kernel
theorem dX12_count_8 : decode cX12_count 8 = .ok (.istore_n 3, 1) := by decide +kernel
theorem dX12_count_9 : decode cX12_count 9 = .ok (.iload_n 3, 1) := by decide +kernel
theorem dX12_count_10 : decode cX12_count 10 = .ok (.aload_n 0, 1) := by decide +kernel
theorem dX12_count_11 : decode cX12_count 11 = .ok (.getfield 13, 3) := by decide +kernel
theorem dX12_count_14 : decode cX12_count 14 = .ok (.iconst 0, 1) := by decide +kernel
theorem dX12_count_15 : decode cX12_count 15 = .ok (.iaload, 1) := by decide +kernel
theorem dX12_count_16 : decode cX12_count 16 = .ok (.if_icmp .ge 21, 3) := by decide +kernel
theorem dX12_count_19 : decode cX12_count 19 = .ok (.iload_n 2, 1) := by decide +kernel
theorem dX12_count_20 : decode cX12_count 20 = .ok (.aload_n 0, 1) := by decide +kernel
theorem dX12_count_21 : decode cX12_count 21 = .ok (.getfield 13, 3) := by decide +kernel
theorem dX12_count_24 : decode cX12_count 24 = .ok (.bipush 26, 2) := by decide +kernel
theorem dX12_count_26 : decode cX12_count 26 = .ok (.iload_n 3, 1) := by decide +kernel
theorem dX12_count_27 : decode cX12_count 27 = .ok (.iadd, 1) := by decide +kernel
theorem dX12_count_28 : decode cX12_count 28 = .ok (.iaload, 1) := by decide +kernel
theorem dX12_count_29 : decode cX12_count 29 = .ok (.iadd, 1) := by decide +kernel
theorem dX12_count_30 : decode cX12_count 30 = .ok (.istore_n 2, 1) := by decide +kernel
theorem dX12_count_31 : decode cX12_count 31 = .ok (.iinc 3 1, 3) := by decide +kernel
theorem dX12_count_34 : decode cX12_count 34 = .ok (.goto (-25), 3) := by decide +kernel
theorem dX12_count_37 : decode cX12_count 37 = .ok (.iload_n 1, 1) := by decide +kernel
theorem dX12_count_38 : decode cX12_count 38 = .ok (.tableswitch 173 0 16 #[82, 89, 97, 104, 111, 118, 123, 128, 135, 142, 149, 156, 164, 173, 173, 173, 171], 82) := by decide +kernel
theorem dX12_count_120 : decode cX12_count 120 = .ok (.aload_n 0, 1) := by decide +kernel
theorem dX12_count_121 : decode cX12_count 121 = .ok (.getfield 13, 3) := by decide +kernel
theorem dX12_count_124 : decode cX12_count 124 = .ok (.iconst 0, 1) := by decide +kernel
theorem dX12_count_125 : decode cX12_count 125 = .ok (.iaload, 1) := by decide +kernel
theorem dX12_count_126 : decode cX12_count 126 = .ok (.ireturn, 1) := by decide +kernel
theorem dX12_count_127 : decode cX12_count 127 = .ok (.aload_n 0, 1) := by decide +kernel
theorem dX12_count_128 : decode cX12_count 128 = .ok (.invokevirtual 489, 3) := by decide +kernel
theorem dX12_count_131 : decode cX12_count 131 = .ok (.invokestatic 190, 3) := by decide +kernel
theorem dX12_count_134 : decode cX12_count 134 = .ok (.ireturn, 1) := by decide +kernel
theorem dX12_count_135 : decode cX12_count 135 = .ok (.aload_n 0, 1) := by decide +kernel
theorem dX12_count_136 : decode cX12_count 136 = .ok (.getfield 13, 3) := by decide +kernel
theorem dX12_count_139 : decode cX12_count 139 = .ok (.iconst 1, 1) := by decide +kernel
theorem dX12_count_140 : decode cX12_count 140 = .ok (.iaload, 1) := by decide +kernel
theorem dX12_count_141 : decode cX12_count 141 = .ok (.ireturn, 1) := by decide +kernel
theorem dX12_count_142 : decode cX12_count 142 = .ok (.aload_n 0, 1) := by decide +kernel
theorem dX12_count_143 : decode cX12_count 143 = .ok (.getfield 13, 3) := by decide +kernel
theorem dX12_count_146 : decode cX12_count 146 = .ok (.iconst 2, 1) := by decide +kernel
theorem dX12_count_147 : decode cX12_count 147 = .ok (.iaload, 1) := by decide +kernel
theorem dX12_count_148 : decode cX12_count 148 = .ok (.ireturn, 1) := by decide +kernel
theorem dX12_count_149 : decode cX12_count 149 = .ok (.aload_n 0, 1) := by decide +kernel
theorem dX12_count_150 : decode cX12_count 150 = .ok (.getfield 13, 3) := by decide +kernel
theorem dX12_count_153 : decode cX12_count 153 = .ok (.iconst 3, 1) := by decide +kernel
theorem dX12_count_154 : decode cX12_count 154 = .ok (.iaload, 1) := by decide +kernel
theorem dX12_count_155 : decode cX12_count 155 = .ok (.ireturn, 1) := by decide +kernel
theorem dX12_count_156 : decode cX12_count 156 = .ok (.aload_n 0, 1) := by decide +kernel
theorem dX12_count_157 : decode cX12_count 157 = .ok (.getfield 167, 3) := by decide +kernel
theorem dX12_count_160 : decode cX12_count 160 = .ok (.ireturn, 1) := by decide +kernel
theorem dX12_count_161 : decode cX12_count 161 = .ok (.aload_n 0, 1) := by decide +kernel
theorem dX12_count_162 : decode cX12_count 162 = .ok (.getfield 248, 3) := by decide +kernel
theorem dX12_count_165 : decode cX12_count 165 = .ok (.ireturn, 1) := by decide +kernel
theorem dX12_count_166 : decode cX12_count 166 = .ok (.aload_n 0, 1) := by decide +kernel
theorem dX12_count_167 : decode cX12_count 167 = .ok (.getfield 7, 3) := by decide +kernel
theorem dX12_count_170 : decode cX12_count 170 = .ok (.iconst 1, 1) := by decide +kernel
theorem dX12_count_171 : decode cX12_count 171 = .ok (.iaload, 1) := by decide +kernel
theorem dX12_count_172 : decode cX12_count 172 = .ok (.ireturn, 1) := by decide +kernel
theorem dX12_count_173 : decode cX12_count 173 = .ok (.aload_n 0, 1) := by decide +kernel
theorem dX12_count_174 : decode cX12_count 174 = .ok (.getfield 7, 3) := by decide +kernel
theorem dX12_count_177 : decode cX12_count 177 = .ok (.iconst 2, 1) := by decide +kernel
theorem dX12_count_178 : decode cX12_count 178 = .ok (.iaload, 1) := by decide +kernel
theorem dX12_count_179 : decode cX12_count 179 = .ok (.ireturn, 1) := by decide +kernel
theorem dX12_count_180 : decode cX12_count 180 = .ok (.aload_n 0, 1) := by decide +kernel
theorem dX12_count_181 : decode cX12_count 181 = .ok (.getfield 7, 3) := by decide +kernel
theorem dX12_count_184 : decode cX12_count 184 = .ok (.iconst 3, 1) := by decide +kernel
theorem dX12_count_185 : decode cX12_count 185 = .ok (.iaload, 1) := by decide +kernel
theorem dX12_count_186 : decode cX12_count 186 = .ok (.ireturn, 1) := by decide +kernel
theorem dX12_count_187 : decode cX12_count 187 = .ok (.aload_n 0, 1) := by decide +kernel
theorem dX12_count_188 : decode cX12_count 188 = .ok (.getfield 7, 3) := by decide +kernel
theorem dX12_count_191 : decode cX12_count 191 = .ok (.iconst 5, 1) := by decide +kernel
theorem dX12_count_192 : decode cX12_count 192 = .ok (.iaload, 1) := by decide +kernel
theorem dX12_count_193 : decode cX12_count 193 = .ok (.ireturn, 1) := by decide +kernel
theorem dX12_count_194 : decode cX12_count 194 = .ok (.aload_n 0, 1) := by decide +kernel
theorem dX12_count_195 : decode cX12_count 195 = .ok (.getfield 7, 3) := by decide +kernel
theorem dX12_count_198 : decode cX12_count 198 = .ok (.bipush 6, 2) := by decide +kernel
theorem dX12_count_200 : decode cX12_count 200 = .ok (.iaload, 1) := by decide +kernel
theorem dX12_count_201 : decode cX12_count 201 = .ok (.ireturn, 1) := by decide +kernel
theorem dX12_count_202 : decode cX12_count 202 = .ok (.aload_n 0, 1) := by decide +kernel
theorem dX12_count_203 : decode cX12_count 203 = .ok (.getfield 13, 3) := by decide +kernel
theorem dX12_count_206 : decode cX12_count 206 = .ok (.iconst 4, 1) := by decide +kernel
theorem dX12_count_207 : decode cX12_count 207 = .ok (.iaload, 1) := by decide +kernel
theorem dX12_count_208 : decode cX12_count 208 = .ok (.ireturn, 1) := by decide +kernel
theorem dX12_count_209 : decode cX12_count 209 = .ok (.iload_n 2, 1) := by decide +kernel
theorem dX12_count_210 : decode cX12_count 210 = .ok (.ireturn, 1) := by decide +kernel
theorem dX12_count_211 : decode cX12_count 211 = .ok (.iload_n 1, 1) := by decide +kernel
theorem dX12_count_212 : decode cX12_count 212 = .ok (.i2l, 1) := by decide +kernel
theorem dX12_count_213 : decode cX12_count 213 = .ok (.ldc2_w 543, 3) := by decide +kernel
theorem dX12_count_216 : decode cX12_count 216 = .ok (.ldc2_w 545, 3) := by decide +kernel
theorem dX12_count_219 : decode cX12_count 219 = .ok (.invokestatic 181, 3) := by decide +kernel
theorem dX12_count_222 : decode cX12_count 222 = .ok (.ifCond .eq 17, 3) := by decide +kernel
theorem dX12_count_225 : decode cX12_count 225 = .ok (.aload_n 0, 1) := by decide +kernel
theorem dX12_count_226 : decode cX12_count 226 = .ok (.getfield 13, 3) := by decide +kernel
theorem dX12_count_229 : decode cX12_count 229 = .ok (.iconst 5, 1) := by decide +kernel
theorem dX12_count_230 : decode cX12_count 230 = .ok (.iload_n 1, 1) := by decide +kernel
theorem dX12_count_231 : decode cX12_count 231 = .ok (.iadd, 1) := by decide +kernel
theorem dX12_count_232 : decode cX12_count 232 = .ok (.bipush 13, 2) := by decide +kernel
theorem dX12_count_234 : decode cX12_count 234 = .ok (.isub, 1) := by decide +kernel
theorem dX12_count_235 : decode cX12_count 235 = .ok (.iaload, 1) := by decide +kernel
theorem dX12_count_236 : decode cX12_count 236 = .ok (.goto 4, 3) := by decide +kernel
theorem dX12_count_239 : decode cX12_count 239 = .ok (.iconst (-1), 1) := by decide +kernel
theorem dX12_count_240 : decode cX12_count 240 = .ok (.ireturn, 1) := by decide +kernel
theorem dX12_status_0 : decode cX12_status 0 = .ok (.aload_n 0, 1) := by decide +kernel
theorem dX12_status_1 : decode cX12_status 1 = .ok (.iconst 0, 1) := by decide +kernel
theorem dX12_status_2 : decode cX12_status 2 = .ok (.putfield 161, 3) := by decide +kernel
theorem dX12_status_5 : decode cX12_status 5 = .ok (.aload_n 0, 1) := by decide +kernel
theorem dX12_status_6 : decode cX12_status 6 = .ok (.getfield 164, 3) := by decide +kernel
theorem dX12_status_9 : decode cX12_status 9 = .ok (.ireturn, 1) := by decide +kernel
