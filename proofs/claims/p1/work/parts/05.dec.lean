theorem dX12_init_0 : decode cX12_init 0 = .ok (.aload_n 0, 1) := by decide +kernel
theorem dX12_init_1 : decode cX12_init 1 = .ok (.invokespecial 1, 3) := by decide +kernel
theorem dX12_init_4 : decode cX12_init 4 = .ok (.aload_n 0, 1) := by decide +kernel
theorem dX12_init_5 : decode cX12_init 5 = .ok (.sipush 2400, 3) := by decide +kernel
theorem dX12_init_8 : decode cX12_init 8 = .ok (.newarray .int, 2) := by decide +kernel
theorem dX12_init_10 : decode cX12_init 10 = .ok (.putfield 7, 3) := by decide +kernel
theorem dX12_init_13 : decode cX12_init 13 = .ok (.aload_n 0, 1) := by decide +kernel
theorem dX12_init_14 : decode cX12_init 14 = .ok (.sipush 400, 3) := by decide +kernel
theorem dX12_init_17 : decode cX12_init 17 = .ok (.newarray .byte, 2) := by decide +kernel
theorem dX12_init_19 : decode cX12_init 19 = .ok (.putfield 13, 3) := by decide +kernel
theorem dX12_init_22 : decode cX12_init 22 = .ok (.aload_n 0, 1) := by decide +kernel
theorem dX12_init_23 : decode cX12_init 23 = .ok (.bipush 22, 2) := by decide +kernel
theorem dX12_init_25 : decode cX12_init 25 = .ok (.newarray .int, 2) := by decide +kernel
theorem dX12_init_27 : decode cX12_init 27 = .ok (.putfield 17, 3) := by decide +kernel
theorem dX12_init_30 : decode cX12_init 30 = .ok (.aload_n 0, 1) := by decide +kernel
theorem dX12_init_31 : decode cX12_init 31 = .ok (.sipush 880, 3) := by decide +kernel
theorem dX12_init_34 : decode cX12_init 34 = .ok (.newarray .int, 2) := by decide +kernel
theorem dX12_init_36 : decode cX12_init 36 = .ok (.putfield 20, 3) := by decide +kernel
theorem dX12_init_39 : decode cX12_init 39 = .ok (.aload_n 0, 1) := by decide +kernel
theorem dX12_init_40 : decode cX12_init 40 = .ok (.sipush 880, 3) := by decide +kernel
theorem dX12_init_43 : decode cX12_init 43 = .ok (.newarray .int, 2) := by decide +kernel
theorem dX12_init_45 : decode cX12_init 45 = .ok (.putfield 23, 3) := by decide +kernel
theorem dX12_init_48 : decode cX12_init 48 = .ok (.aload_n 0, 1) := by decide +kernel
theorem dX12_init_49 : decode cX12_init 49 = .ok (.sipush 880, 3) := by decide +kernel
theorem dX12_init_52 : decode cX12_init 52 = .ok (.newarray .int, 2) := by decide +kernel
theorem dX12_init_54 : decode cX12_init 54 = .ok (.putfield 26, 3) := by decide +kernel
theorem dX12_init_57 : decode cX12_init 57 = .ok (.aload_n 0, 1) := by decide +kernel
theorem dX12_init_58 : decode cX12_init 58 = .ok (.sipush 880, 3) := by decide +kernel
theorem dX12_init_61 : decode cX12_init 61 = .ok (.newarray .int, 2) := by decide +kernel
theorem dX12_init_63 : decode cX12_init 63 = .ok (.putfield 29, 3) := by decide +kernel
theorem dX12_init_66 : decode cX12_init 66 = .ok (.aload_n 0, 1) := by decide +kernel
theorem dX12_init_67 : decode cX12_init 67 = .ok (.sipush 880, 3) := by decide +kernel
theorem dX12_init_70 : decode cX12_init 70 = .ok (.newarray .int, 2) := by decide +kernel
theorem dX12_init_72 : decode cX12_init 72 = .ok (.putfield 32, 3) := by decide +kernel
theorem dX12_init_75 : decode cX12_init 75 = .ok (.aload_n 0, 1) := by decide +kernel
theorem dX12_init_76 : decode cX12_init 76 = .ok (.sipush 880, 3) := by decide +kernel
theorem dX12_init_79 : decode cX12_init 79 = .ok (.newarray .int, 2) := by decide +kernel
theorem dX12_init_81 : decode cX12_init 81 = .ok (.putfield 35, 3) := by decide +kernel
theorem dX12_init_84 : decode cX12_init 84 = .ok (.aload_n 0, 1) := by decide +kernel
theorem dX12_init_85 : decode cX12_init 85 = .ok (.sipush 880, 3) := by decide +kernel
theorem dX12_init_88 : decode cX12_init 88 = .ok (.newarray .int, 2) := by decide +kernel
theorem dX12_init_90 : decode cX12_init 90 = .ok (.putfield 38, 3) := by decide +kernel
theorem dX12_init_93 : decode cX12_init 93 = .ok (.aload_n 0, 1) := by decide +kernel
theorem dX12_init_94 : decode cX12_init 94 = .ok (.sipush 880, 3) := by decide +kernel
theorem dX12_init_97 : decode cX12_init 97 = .ok (.newarray .int, 2) := by decide +kernel
theorem dX12_init_99 : decode cX12_init 99 = .ok (.putfield 41, 3) := by decide +kernel
theorem dX12_init_102 : decode cX12_init 102 = .ok (.aload_n 0, 1) := by decide +kernel
theorem dX12_init_103 : decode cX12_init 103 = .ok (.sipush 880, 3) := by decide +kernel
theorem dX12_init_106 : decode cX12_init 106 = .ok (.newarray .int, 2) := by decide +kernel
theorem dX12_init_108 : decode cX12_init 108 = .ok (.putfield 44, 3) := by decide +kernel
theorem dX12_init_111 : decode cX12_init 111 = .ok (.aload_n 0, 1) := by decide +kernel
theorem dX12_init_112 : decode cX12_init 112 = .ok (.sipush 880, 3) := by decide +kernel
theorem dX12_init_115 : decode cX12_init 115 = .ok (.newarray .int, 2) := by decide +kernel
theorem dX12_init_117 : decode cX12_init 117 = .ok (.putfield 47, 3) := by decide +kernel
theorem dX12_init_120 : decode cX12_init 120 = .ok (.aload_n 0, 1) := by decide +kernel
theorem dX12_init_121 : decode cX12_init 121 = .ok (.bipush 22, 2) := by decide +kernel
theorem dX12_init_123 : decode cX12_init 123 = .ok (.newarray .int, 2) := by decide +kernel
theorem dX12_init_125 : decode cX12_init 125 = .ok (.putfield 50, 3) := by decide +kernel
theorem dX12_init_128 : decode cX12_init 128 = .ok (.aload_n 0, 1) := by decide +kernel
theorem dX12_init_129 : decode cX12_init 129 = .ok (.sipush 880, 3) := by decide +kernel
theorem dX12_init_132 : decode cX12_init 132 = .ok (.newarray .int, 2) := by decide +kernel
theorem dX12_init_134 : decode cX12_init 134 = .ok (.putfield 53, 3) := by decide +kernel
theorem dX12_init_137 : decode cX12_init 137 = .ok (.aload_n 0, 1) := by decide +kernel
theorem dX12_init_138 : decode cX12_init 138 = .ok (.sipush 880, 3) := by decide +kernel
theorem dX12_init_141 : decode cX12_init 141 = .ok (.newarray .int, 2) := by decide +kernel
theorem dX12_init_143 : decode cX12_init 143 = .ok (.putfield 56, 3) := by decide +kernel
theorem dX12_init_146 : decode cX12_init 146 = .ok (.aload_n 0, 1) := by decide +kernel
theorem dX12_init_147 : decode cX12_init 147 = .ok (.sipush 880, 3) := by decide +kernel
theorem dX12_init_150 : decode cX12_init 150 = .ok (.newarray .int, 2) := by decide +kernel
theorem dX12_init_152 : decode cX12_init 152 = .ok (.putfield 59, 3) := by decide +kernel
theorem dX12_init_155 : decode cX12_init 155 = .ok (.aload_n 0, 1) := by decide +kernel
theorem dX12_init_156 : decode cX12_init 156 = .ok (.bipush 40, 2) := by decide +kernel
theorem dX12_init_158 : decode cX12_init 158 = .ok (.newarray .int, 2) := by decide +kernel
theorem dX12_init_160 : decode cX12_init 160 = .ok (.putfield 62, 3) := by decide +kernel
theorem dX12_init_163 : decode cX12_init 163 = .ok (.aload_n 0, 1) := by decide +kernel
theorem dX12_init_164 : decode cX12_init 164 = .ok (.bipush 40, 2) := by decide +kernel
theorem dX12_init_166 : decode cX12_init 166 = .ok (.newarray .int, 2) := by decide +kernel
theorem dX12_init_168 : decode cX12_init 168 = .ok (.putfield 65, 3) := by decide +kernel
theorem dX12_init_171 : decode cX12_init 171 = .ok (.aload_n 0, 1) := by decide +kernel
theorem dX12_init_172 : decode cX12_init 172 = .ok (.bipush 11, 2) := by decide +kernel
theorem dX12_init_174 : decode cX12_init 174 = .ok (.newarray .long, 2) := by decide +kernel
theorem dX12_init_176 : decode cX12_init 176 = .ok (.dup, 1) := by decide +kernel
theorem dX12_init_177 : decode cX12_init 177 = .ok (.iconst 0, 1) := by decide +kernel
theorem dX12_init_178 : decode cX12_init 178 = .ok (.ldc2_w 68, 3) := by decide +kernel
theorem dX12_init_181 : decode cX12_init 181 = .ok (.lastore, 1) := by decide +kernel
theorem dX12_init_182 : decode cX12_init 182 = .ok (.dup, 1) := by decide +kernel
theorem dX12_init_183 : decode cX12_init 183 = .ok (.iconst 1, 1) := by decide +kernel
theorem dX12_init_184 : decode cX12_init 184 = .ok (.ldc2_w 70, 3) := by decide +kernel
theorem dX12_init_187 : decode cX12_init 187 = .ok (.lastore, 1) := by decide +kernel
theorem dX12_init_188 : decode cX12_init 188 = .ok (.dup, 1) := by decide +kernel
theorem dX12_init_189 : decode cX12_init 189 = .ok (.iconst 2, 1) := by decide +kernel
theorem dX12_init_190 : decode cX12_init 190 = .ok (.ldc2_w 72, 3) := by decide +kernel
theorem dX12_init_193 : decode cX12_init 193 = .ok (.lastore, 1) := by decide +kernel
theorem dX12_init_194 : decode cX12_init 194 = .ok (.dup, 1) := by decide +kernel
theorem dX12_init_195 : decode cX12_init 195 = .ok (.iconst 3, 1) := by decide +kernel
theorem dX12_init_196 : decode cX12_init 196 = .ok (.ldc2_w 74, 3) := by decide +kernel
theorem dX12_init_199 : decode cX12_init 199 = .ok (.lastore, 1) := by decide +kernel
theorem dX12_init_200 : decode cX12_init 200 = .ok (.dup, 1) := by decide +kernel
theorem dX12_init_201 : decode cX12_init 201 = .ok (.iconst 4, 1) := by decide +kernel
theorem dX12_init_202 : decode cX12_init 202 = .ok (.ldc2_w 76, 3) := by decide +kernel
theorem dX12_init_205 : decode cX12_init 205 = .ok (.lastore, 1) := by decide +kernel
theorem dX12_init_206 : decode cX12_init 206 = .ok (.dup, 1) := by decide +kernel
theorem dX12_init_207 : decode cX12_init 207 = .ok (.iconst 5, 1) := by decide +kernel
theorem dX12_init_208 : decode cX12_init 208 = .ok (.ldc2_w 78, 3) := by decide +kernel
theorem dX12_init_211 : decode cX12_init 211 = .ok (.lastore, 1) := by decide +kernel
theorem dX12_init_212 : decode cX12_init 212 = .ok (.dup, 1) := by decide +kernel
theorem dX12_init_213 : decode cX12_init 213 = .ok (.bipush 6, 2) := by decide +kernel
theorem dX12_init_215 : decode cX12_init 215 = .ok (.ldc2_w 80, 3) := by decide +kernel
theorem dX12_init_218 : decode cX12_init 218 = .ok (.lastore, 1) := by decide +kernel
theorem dX12_init_219 : decode cX12_init 219 = .ok (.dup, 1) := by decide +kernel
theorem dX12_init_220 : decode cX12_init 220 = .ok (.bipush 7, 2) := by decide +kernel
theorem dX12_init_222 : decode cX12_init 222 = .ok (.ldc2_w 82, 3) := by decide +kernel
theorem dX12_init_225 : decode cX12_init 225 = .ok (.lastore, 1) := by decide +kernel
theorem dX12_init_226 : decode cX12_init 226 = .ok (.dup, 1) := by decide +kernel
theorem dX12_init_227 : decode cX12_init 227 = .ok (.bipush 8, 2) := by decide +kernel
theorem dX12_init_229 : decode cX12_init 229 = .ok (.ldc2_w 84, 3) := by decide +kernel
theorem dX12_init_232 : decode cX12_init 232 = .ok (.lastore, 1) := by decide +kernel
theorem dX12_init_233 : decode cX12_init 233 = .ok (.dup, 1) := by decide +kernel
theorem dX12_init_234 : decode cX12_init 234 = .ok (.bipush 9, 2) := by decide +kernel
theorem dX12_init_236 : decode cX12_init 236 = .ok (.ldc2_w 86, 3) := by decide +kernel
theorem dX12_init_239 : decode cX12_init 239 = .ok (.lastore, 1) := by decide +kernel
theorem dX12_init_240 : decode cX12_init 240 = .ok (.dup, 1) := by decide +kernel
theorem dX12_init_241 : decode cX12_init 241 = .ok (.bipush 10, 2) := by decide +kernel
theorem dX12_init_243 : decode cX12_init 243 = .ok (.ldc2_w 88, 3) := by decide +kernel
theorem dX12_init_246 : decode cX12_init 246 = .ok (.lastore, 1) := by decide +kernel
theorem dX12_init_247 : decode cX12_init 247 = .ok (.putfield 90, 3) := by decide +kernel
theorem dX12_init_250 : decode cX12_init 250 = .ok (.aload_n 0, 1) := by decide +kernel
theorem dX12_init_251 : decode cX12_init 251 = .ok (.bipush 6, 2) := by decide +kernel
theorem dX12_init_253 : decode cX12_init 253 = .ok (.newarray .long, 2) := by decide +kernel
theorem dX12_init_255 : decode cX12_init 255 = .ok (.putfield 94, 3) := by decide +kernel
theorem dX12_init_258 : decode cX12_init 258 = .ok (.aload_n 0, 1) := by decide +kernel
theorem dX12_init_259 : decode cX12_init 259 = .ok (.bipush 40, 2) := by decide +kernel
theorem dX12_init_261 : decode cX12_init 261 = .ok (.newarray .int, 2) := by decide +kernel
theorem dX12_init_263 : decode cX12_init 263 = .ok (.putfield 97, 3) := by decide +kernel
theorem dX12_init_266 : decode cX12_init 266 = .ok (.aload_n 0, 1) := by decide +kernel
theorem dX12_init_267 : decode cX12_init 267 = .ok (.bipush 40, 2) := by decide +kernel
theorem dX12_init_269 : decode cX12_init 269 = .ok (.newarray .int, 2) := by decide +kernel
theorem dX12_init_271 : decode cX12_init 271 = .ok (.putfield 100, 3) := by decide +kernel
theorem dX12_init_274 : decode cX12_init 274 = .ok (.aload_n 0, 1) := by decide +kernel
theorem dX12_init_275 : decode cX12_init 275 = .ok (.bipush 40, 2) := by decide +kernel
theorem dX12_init_277 : decode cX12_init 277 = .ok (.newarray .int, 2) := by decide +kernel
theorem dX12_init_279 : decode cX12_init 279 = .ok (.putfield 103, 3) := by decide +kernel
theorem dX12_init_282 : decode cX12_init 282 = .ok (.aload_n 0, 1) := by decide +kernel
theorem dX12_init_283 : decode cX12_init 283 = .ok (.bipush 40, 2) := by decide +kernel
theorem dX12_init_285 : decode cX12_init 285 = .ok (.newarray .long, 2) := by decide +kernel
theorem dX12_init_287 : decode cX12_init 287 = .ok (.putfield 106, 3) := by decide +kernel
theorem dX12_init_290 : decode cX12_init 290 = .ok (.aload_n 0, 1) := by decide +kernel
theorem dX12_init_291 : decode cX12_init 291 = .ok (.bipush 40, 2) := by decide +kernel
theorem dX12_init_293 : decode cX12_init 293 = .ok (.newarray .int, 2) := by decide +kernel
theorem dX12_init_295 : decode cX12_init 295 = .ok (.putfield 109, 3) := by decide +kernel
theorem dX12_init_298 : decode cX12_init 298 = .ok (.aload_n 0, 1) := by decide +kernel
theorem dX12_init_299 : decode cX12_init 299 = .ok (.sipush 1600, 3) := by decide +kernel
theorem dX12_init_302 : decode cX12_init 302 = .ok (.newarray .int, 2) := by decide +kernel
theorem dX12_init_304 : decode cX12_init 304 = .ok (.putfield 112, 3) := by decide +kernel
theorem dX12_init_307 : decode cX12_init 307 = .ok (.aload_n 0, 1) := by decide +kernel
theorem dX12_init_308 : decode cX12_init 308 = .ok (.sipush 1600, 3) := by decide +kernel
theorem dX12_init_311 : decode cX12_init 311 = .ok (.newarray .long, 2) := by decide +kernel
theorem dX12_init_313 : decode cX12_init 313 = .ok (.putfield 115, 3) := by decide +kernel
theorem dX12_init_316 : decode cX12_init 316 = .ok (.aload_n 0, 1) := by decide +kernel
theorem dX12_init_317 : decode cX12_init 317 = .ok (.sipush 2000, 3) := by decide +kernel
theorem dX12_init_320 : decode cX12_init 320 = .ok (.newarray .int, 2) := by decide +kernel
theorem dX12_init_322 : decode cX12_init 322 = .ok (.putfield 118, 3) := by decide +kernel
theorem dX12_init_325 : decode cX12_init 325 = .ok (.aload_n 0, 1) := by decide +kernel
theorem dX12_init_326 : decode cX12_init 326 = .ok (.sipush 2000, 3) := by decide +kernel
theorem dX12_init_329 : decode cX12_init 329 = .ok (.newarray .int, 2) := by decide +kernel
theorem dX12_init_331 : decode cX12_init 331 = .ok (.putfield 121, 3) := by decide +kernel
theorem dX12_init_334 : decode cX12_init 334 = .ok (.aload_n 0, 1) := by decide +kernel
theorem dX12_init_335 : decode cX12_init 335 = .ok (.sipush 2000, 3) := by decide +kernel
theorem dX12_init_338 : decode cX12_init 338 = .ok (.newarray .int, 2) := by decide +kernel
theorem dX12_init_340 : decode cX12_init 340 = .ok (.putfield 124, 3) := by decide +kernel
theorem dX12_init_343 : decode cX12_init 343 = .ok (.aload_n 0, 1) := by decide +kernel
theorem dX12_init_344 : decode cX12_init 344 = .ok (.sipush 2000, 3) := by decide +kernel
theorem dX12_init_347 : decode cX12_init 347 = .ok (.newarray .int, 2) := by decide +kernel
theorem dX12_init_349 : decode cX12_init 349 = .ok (.putfield 127, 3) := by decide +kernel
theorem dX12_init_352 : decode cX12_init 352 = .ok (.aload_n 0, 1) := by decide +kernel
theorem dX12_init_353 : decode cX12_init 353 = .ok (.bipush 64, 2) := by decide +kernel
theorem dX12_init_355 : decode cX12_init 355 = .ok (.newarray .int, 2) := by decide +kernel
theorem dX12_init_357 : decode cX12_init 357 = .ok (.putfield 130, 3) := by decide +kernel
theorem dX12_init_360 : decode cX12_init 360 = .ok (.aload_n 0, 1) := by decide +kernel
theorem dX12_init_361 : decode cX12_init 361 = .ok (.bipush 64, 2) := by decide +kernel
theorem dX12_init_363 : decode cX12_init 363 = .ok (.newarray .long, 2) := by decide +kernel
theorem dX12_init_365 : decode cX12_init 365 = .ok (.putfield 133, 3) := by decide +kernel
theorem dX12_init_368 : decode cX12_init 368 = .ok (.aload_n 0, 1) := by decide +kernel
theorem dX12_init_369 : decode cX12_init 369 = .ok (.bipush 8, 2) := by decide +kernel
theorem dX12_init_371 : decode cX12_init 371 = .ok (.newarray .int, 2) := by decide +kernel
theorem dX12_init_373 : decode cX12_init 373 = .ok (.putfield 136, 3) := by decide +kernel
theorem dX12_init_376 : decode cX12_init 376 = .ok (.aload_n 0, 1) := by decide +kernel
theorem dX12_init_377 : decode cX12_init 377 = .ok (.bipush 8, 2) := by decide +kernel
theorem dX12_init_379 : decode cX12_init 379 = .ok (.newarray .int, 2) := by decide +kernel
theorem dX12_init_381 : decode cX12_init 381 = .ok (.putfield 139, 3) := by decide +kernel
theorem dX12_init_384 : decode cX12_init 384 = .ok (.aload_n 0, 1) := by decide +kernel
theorem dX12_init_385 : decode cX12_init 385 = .ok (.bipush 8, 2) := by decide +kernel
theorem dX12_init_387 : decode cX12_init 387 = .ok (.newarray .long, 2) := by decide +kernel
theorem dX12_init_389 : decode cX12_init 389 = .ok (.putfield 142, 3) := by decide +kernel
theorem dX12_init_392 : decode cX12_init 392 = .ok (.aload_n 0, 1) := by decide +kernel
theorem dX12_init_393 : decode cX12_init 393 = .ok (.bipush 8, 2) := by decide +kernel
theorem dX12_init_395 : decode cX12_init 395 = .ok (.newarray .long, 2) := by decide +kernel
theorem dX12_init_397 : decode cX12_init 397 = .ok (.putfield 145, 3) := by decide +kernel
theorem dX12_init_400 : decode cX12_init 400 = .ok (.aload_n 0, 1) := by decide +kernel
theorem dX12_init_401 : decode cX12_init 401 = .ok (.bipush 8, 2) := by decide +kernel
theorem dX12_init_403 : decode cX12_init 403 = .ok (.newarray .long, 2) := by decide +kernel
theorem dX12_init_405 : decode cX12_init 405 = .ok (.putfield 148, 3) := by decide +kernel
theorem dX12_init_408 : decode cX12_init 408 = .ok (.aload_n 0, 1) := by decide +kernel
theorem dX12_init_409 : decode cX12_init 409 = .ok (.iconst 1, 1) := by decide +kernel
theorem dX12_init_410 : decode cX12_init 410 = .ok (.putfield 151, 3) := by decide +kernel
theorem dX12_init_413 : decode cX12_init 413 = .ok (.aload_n 0, 1) := by decide +kernel
theorem dX12_init_414 : decode cX12_init 414 = .ok (.iconst 3, 1) := by decide +kernel
theorem dX12_init_415 : decode cX12_init 415 = .ok (.newarray .int, 2) := by decide +kernel
theorem dX12_init_417 : decode cX12_init 417 = .ok (.putfield 155, 3) := by decide +kernel
theorem dX12_init_420 : decode cX12_init 420 = .ok (.aload_n 0, 1) := by decide +kernel
theorem dX12_init_421 : decode cX12_init 421 = .ok (.bipush 18, 2) := by decide +kernel
theorem dX12_init_423 : decode cX12_init 423 = .ok (.newarray .int, 2) := by decide +kernel
theorem dX12_init_425 : decode cX12_init 425 = .ok (.putfield 158, 3) := by decide +kernel
theorem dX12_init_428 : decode cX12_init 428 = .ok (.aload_n 0, 1) := by decide +kernel
theorem dX12_init_429 : decode cX12_init 429 = .ok (.bipush 6, 2) := by decide +kernel
theorem dX12_init_431 : decode cX12_init 431 = .ok (.newarray .int, 2) := by decide +kernel
theorem dX12_init_433 : decode cX12_init 433 = .ok (.putfield 161, 3) := by decide +kernel
theorem dX12_init_436 : decode cX12_init 436 = .ok (.aload_n 0, 1) := by decide +kernel
theorem dX12_init_437 : decode cX12_init 437 = .ok (.bipush 80, 2) := by decide +kernel
theorem dX12_init_439 : decode cX12_init 439 = .ok (.newarray .int, 2) := by decide +kernel
theorem dX12_init_441 : decode cX12_init 441 = .ok (.putfield 164, 3) := by decide +kernel
theorem dX12_init_444 : decode cX12_init 444 = .ok (.aload_n 0, 1) := by decide +kernel
theorem dX12_init_445 : decode cX12_init 445 = .ok (.bipush 80, 2) := by decide +kernel
theorem dX12_init_447 : decode cX12_init 447 = .ok (.newarray .int, 2) := by decide +kernel
theorem dX12_init_449 : decode cX12_init 449 = .ok (.putfield 167, 3) := by decide +kernel
theorem dX12_init_452 : decode cX12_init 452 = .ok (.aload_n 0, 1) := by decide +kernel
theorem dX12_init_453 : decode cX12_init 453 = .ok (.bipush 80, 2) := by decide +kernel
theorem dX12_init_455 : decode cX12_init 455 = .ok (.newarray .int, 2) := by decide +kernel
theorem dX12_init_457 : decode cX12_init 457 = .ok (.putfield 170, 3) := by decide +kernel
theorem dX12_init_460 : decode cX12_init 460 = .ok (.aload_n 0, 1) := by decide +kernel
theorem dX12_init_461 : decode cX12_init 461 = .ok (.bipush 80, 2) := by decide +kernel
theorem dX12_init_463 : decode cX12_init 463 = .ok (.newarray .long, 2) := by decide +kernel
theorem dX12_init_465 : decode cX12_init 465 = .ok (.putfield 173, 3) := by decide +kernel
theorem dX12_init_468 : decode cX12_init 468 = .ok (.aload_n 0, 1) := by decide +kernel
theorem dX12_init_469 : decode cX12_init 469 = .ok (.bipush 80, 2) := by decide +kernel
theorem dX12_init_471 : decode cX12_init 471 = .ok (.newarray .int, 2) := by decide +kernel
theorem dX12_init_473 : decode cX12_init 473 = .ok (.putfield 176, 3) := by decide +kernel
theorem dX12_init_476 : decode cX12_init 476 = .ok (.aload_n 0, 1) := by decide +kernel
theorem dX12_init_477 : decode cX12_init 477 = .ok (.bipush 80, 2) := by decide +kernel
theorem dX12_init_479 : decode cX12_init 479 = .ok (.newarray .long, 2) := by decide +kernel
theorem dX12_init_481 : decode cX12_init 481 = .ok (.putfield 179, 3) := by decide +kernel
theorem dX12_init_484 : decode cX12_init 484 = .ok (.aload_n 0, 1) := by decide +kernel
theorem dX12_init_485 : decode cX12_init 485 = .ok (.bipush 80, 2) := by decide +kernel
theorem dX12_init_487 : decode cX12_init 487 = .ok (.newarray .boolean, 2) := by decide +kernel
theorem dX12_init_489 : decode cX12_init 489 = .ok (.putfield 182, 3) := by decide +kernel
theorem dX12_init_492 : decode cX12_init 492 = .ok (.aload_n 0, 1) := by decide +kernel
theorem dX12_init_493 : decode cX12_init 493 = .ok (.bipush 80, 2) := by decide +kernel
theorem dX12_init_495 : decode cX12_init 495 = .ok (.newarray .long, 2) := by decide +kernel
theorem dX12_init_497 : decode cX12_init 497 = .ok (.putfield 186, 3) := by decide +kernel
theorem dX12_init_500 : decode cX12_init 500 = .ok (.aload_n 0, 1) := by decide +kernel
theorem dX12_init_501 : decode cX12_init 501 = .ok (.bipush 80, 2) := by decide +kernel
theorem dX12_init_503 : decode cX12_init 503 = .ok (.newarray .int, 2) := by decide +kernel
theorem dX12_init_505 : decode cX12_init 505 = .ok (.putfield 189, 3) := by decide +kernel
theorem dX12_init_508 : decode cX12_init 508 = .ok (.aload_n 0, 1) := by decide +kernel
theorem dX12_init_509 : decode cX12_init 509 = .ok (.bipush 13, 2) := by decide +kernel
theorem dX12_init_511 : decode cX12_init 511 = .ok (.newarray .int, 2) := by decide +kernel
theorem dX12_init_513 : decode cX12_init 513 = .ok (.putfield 192, 3) := by decide +kernel
theorem dX12_init_516 : decode cX12_init 516 = .ok (.aload_n 0, 1) := by decide +kernel
theorem dX12_init_517 : decode cX12_init 517 = .ok (.sipush 5265, 3) := by decide +kernel
theorem dX12_init_520 : decode cX12_init 520 = .ok (.newarray .boolean, 2) := by decide +kernel
theorem dX12_init_522 : decode cX12_init 522 = .ok (.putfield 195, 3) := by decide +kernel
theorem dX12_init_525 : decode cX12_init 525 = .ok (.aload_n 0, 1) := by decide +kernel
theorem dX12_init_526 : decode cX12_init 526 = .ok (.sipush 5265, 3) := by decide +kernel
theorem dX12_init_529 : decode cX12_init 529 = .ok (.newarray .int, 2) := by decide +kernel
theorem dX12_init_531 : decode cX12_init 531 = .ok (.putfield 198, 3) := by decide +kernel
theorem dX12_init_534 : decode cX12_init 534 = .ok (.aload_n 0, 1) := by decide +kernel
theorem dX12_init_535 : decode cX12_init 535 = .ok (.bipush 64, 2) := by decide +kernel
theorem dX12_init_537 : decode cX12_init 537 = .ok (.newarray .int, 2) := by decide +kernel
theorem dX12_init_539 : decode cX12_init 539 = .ok (.putfield 201, 3) := by decide +kernel
theorem dX12_init_542 : decode cX12_init 542 = .ok (.aload_n 0, 1) := by decide +kernel
theorem dX12_init_543 : decode cX12_init 543 = .ok (.bipush 64, 2) := by decide +kernel
theorem dX12_init_545 : decode cX12_init 545 = .ok (.newarray .long, 2) := by decide +kernel
theorem dX12_init_547 : decode cX12_init 547 = .ok (.putfield 204, 3) := by decide +kernel
theorem dX12_init_550 : decode cX12_init 550 = .ok (.aload_n 0, 1) := by decide +kernel
theorem dX12_init_551 : decode cX12_init 551 = .ok (.iconst 5, 1) := by decide +kernel
theorem dX12_init_552 : decode cX12_init 552 = .ok (.newarray .long, 2) := by decide +kernel
theorem dX12_init_554 : decode cX12_init 554 = .ok (.putfield 207, 3) := by decide +kernel
theorem dX12_init_557 : decode cX12_init 557 = .ok (.aload_n 0, 1) := by decide +kernel
theorem dX12_init_558 : decode cX12_init 558 = .ok (.bipush 82, 2) := by decide +kernel
theorem dX12_init_560 : decode cX12_init 560 = .ok (.newarray .int, 2) := by decide +kernel
theorem dX12_init_562 : decode cX12_init 562 = .ok (.putfield 210, 3) := by decide +kernel
theorem dX12_init_565 : decode cX12_init 565 = .ok (.aload_n 0, 1) := by decide +kernel
theorem dX12_init_566 : decode cX12_init 566 = .ok (.bipush 82, 2) := by decide +kernel
theorem dX12_init_568 : decode cX12_init 568 = .ok (.newarray .int, 2) := by decide +kernel
theorem dX12_init_570 : decode cX12_init 570 = .ok (.putfield 213, 3) := by decide +kernel
theorem dX12_init_573 : decode cX12_init 573 = .ok (.aload_n 0, 1) := by decide +kernel
theorem dX12_init_574 : decode cX12_init 574 = .ok (.bipush 82, 2) := by decide +kernel
theorem dX12_init_576 : decode cX12_init 576 = .ok (.newarray .int, 2) := by decide +kernel
theorem dX12_init_578 : decode cX12_init 578 = .ok (.putfield 216, 3) := by decide +kernel
theorem dX12_init_581 : decode cX12_init 581 = .ok (.aload_n 0, 1) := by decide +kernel
theorem dX12_init_582 : decode cX12_init 582 = .ok (.bipush 82, 2) := by decide +kernel
theorem dX12_init_584 : decode cX12_init 584 = .ok (.newarray .int, 2) := by decide +kernel
theorem dX12_init_586 : decode cX12_init 586 = .ok (.putfield 219, 3) := by decide +kernel
theorem dX12_init_589 : decode cX12_init 589 = .ok (.aload_n 0, 1) := by decide +kernel
theorem dX12_init_590 : decode cX12_init 590 = .ok (.bipush 82, 2) := by decide +kernel
theorem dX12_init_592 : decode cX12_init 592 = .ok (.newarray .int, 2) := by decide +kernel
theorem dX12_init_594 : decode cX12_init 594 = .ok (.putfield 222, 3) := by decide +kernel
theorem dX12_init_597 : decode cX12_init 597 = .ok (.aload_n 0, 1) := by decide +kernel
theorem dX12_init_598 : decode cX12_init 598 = .ok (.bipush 82, 2) := by decide +kernel
theorem dX12_init_600 : decode cX12_init 600 = .ok (.newarray .int, 2) := by decide +kernel
theorem dX12_init_602 : decode cX12_init 602 = .ok (.putfield 225, 3) := by decide +kernel
theorem dX12_init_605 : decode cX12_init 605 = .ok (.aload_n 0, 1) := by decide +kernel
theorem dX12_init_606 : decode cX12_init 606 = .ok (.bipush 82, 2) := by decide +kernel
theorem dX12_init_608 : decode cX12_init 608 = .ok (.newarray .int, 2) := by decide +kernel
theorem dX12_init_610 : decode cX12_init 610 = .ok (.putfield 228, 3) := by decide +kernel
theorem dX12_init_613 : decode cX12_init 613 = .ok (.aload_n 0, 1) := by decide +kernel
theorem dX12_init_614 : decode cX12_init 614 = .ok (.bipush 120, 2) := by decide +kernel
theorem dX12_init_616 : decode cX12_init 616 = .ok (.newarray .int, 2) := by decide +kernel
theorem dX12_init_618 : decode cX12_init 618 = .ok (.putfield 231, 3) := by decide +kernel
theorem dX12_init_621 : decode cX12_init 621 = .ok (.aload_n 0, 1) := by decide +kernel
theorem dX12_init_622 : decode cX12_init 622 = .ok (.bipush 120, 2) := by decide +kernel
theorem dX12_init_624 : decode cX12_init 624 = .ok (.newarray .int, 2) := by decide +kernel
theorem dX12_init_626 : decode cX12_init 626 = .ok (.putfield 234, 3) := by decide +kernel
theorem dX12_init_629 : decode cX12_init 629 = .ok (.aload_n 0, 1) := by decide +kernel
theorem dX12_init_630 : decode cX12_init 630 = .ok (.bipush 120, 2) := by decide +kernel
theorem dX12_init_632 : decode cX12_init 632 = .ok (.newarray .boolean, 2) := by decide +kernel
theorem dX12_init_634 : decode cX12_init 634 = .ok (.putfield 237, 3) := by decide +kernel
theorem dX12_init_637 : decode cX12_init 637 = .ok (.aload_n 0, 1) := by decide +kernel
theorem dX12_init_638 : decode cX12_init 638 = .ok (.sipush 1000, 3) := by decide +kernel
theorem dX12_init_641 : decode cX12_init 641 = .ok (.newarray .byte, 2) := by decide +kernel
theorem dX12_init_643 : decode cX12_init 643 = .ok (.putfield 240, 3) := by decide +kernel
theorem dX12_init_646 : decode cX12_init 646 = .ok (.iconst 0, 1) := by decide +kernel
theorem dX12_init_647 : decode cX12_init 647 = .ok (.istore_n 1, 1) := by decide +kernel
theorem dX12_init_648 : decode cX12_init 648 = .ok (.iload_n 1, 1) := by decide +kernel
theorem dX12_init_649 : decode cX12_init 649 = .ok (.sipush 2400, 3) := by decide +kernel
theorem dX12_init_652 : decode cX12_init 652 = .ok (.if_icmp .ge 18, 3) := by decide +kernel
theorem dX12_init_655 : decode cX12_init 655 = .ok (.aload_n 0, 1) := by decide +kernel
theorem dX12_init_656 : decode cX12_init 656 = .ok (.getfield 7, 3) := by decide +kernel
theorem dX12_init_659 : decode cX12_init 659 = .ok (.iload_n 1, 1) := by decide +kernel
theorem dX12_init_660 : decode cX12_init 660 = .ok (.sipush (-10000), 3) := by decide +kernel
theorem dX12_init_663 : decode cX12_init 663 = .ok (.iastore, 1) := by decide +kernel
theorem dX12_init_664 : decode cX12_init 664 = .ok (.iinc 1 1, 3) := by decide +kernel
theorem dX12_init_667 : decode cX12_init 667 = .ok (.goto (-19), 3) := by decide +kernel
theorem dX12_init_670 : decode cX12_init 670 = .ok (.iconst 0, 1) := by decide +kernel
theorem dX12_init_671 : decode cX12_init 671 = .ok (.istore_n 1, 1) := by decide +kernel
theorem dX12_init_672 : decode cX12_init 672 = .ok (.iload_n 1, 1) := by decide +kernel
theorem dX12_init_673 : decode cX12_init 673 = .ok (.iconst 3, 1) := by decide +kernel
theorem dX12_init_674 : decode cX12_init 674 = .ok (.if_icmp .ge 16, 3) := by decide +kernel
theorem dX12_init_677 : decode cX12_init 677 = .ok (.aload_n 0, 1) := by decide +kernel
theorem dX12_init_678 : decode cX12_init 678 = .ok (.getfield 155, 3) := by decide +kernel
theorem dX12_init_681 : decode cX12_init 681 = .ok (.iload_n 1, 1) := by decide +kernel
theorem dX12_init_682 : decode cX12_init 682 = .ok (.iconst 1, 1) := by decide +kernel
theorem dX12_init_683 : decode cX12_init 683 = .ok (.iastore, 1) := by decide +kernel
theorem dX12_init_684 : decode cX12_init 684 = .ok (.iinc 1 1, 3) := by decide +kernel
theorem dX12_init_687 : decode cX12_init 687 = .ok (.goto (-15), 3) := by decide +kernel
theorem dX12_init_690 : decode cX12_init 690 = .ok (.return_, 1) := by decide +kernel
theorem dX12_in_0 : decode cX12_in 0 = .ok (.lload_n 0, 1) := by decide +kernel
theorem dX12_in_1 : decode cX12_in 1 = .ok (.lload_n 2, 1) := by decide +kernel
theorem dX12_in_2 : decode cX12_in 2 = .ok (.lcmp, 1) := by decide +kernel
theorem dX12_in_3 : decode cX12_in 3 = .ok (.ifCond .lt 14, 3) := by decide +kernel
theorem dX12_in_6 : decode cX12_in 6 = .ok (.lload_n 0, 1) := by decide +kernel
theorem dX12_in_7 : decode cX12_in 7 = .ok (.lload 4, 2) := by decide +kernel
theorem dX12_in_9 : decode cX12_in 9 = .ok (.lcmp, 1) := by decide +kernel
theorem dX12_in_10 : decode cX12_in 10 = .ok (.ifCond .gt 7, 3) := by decide +kernel
theorem dX12_in_13 : decode cX12_in 13 = .ok (.iconst 1, 1) := by decide +kernel
theorem dX12_in_14 : decode cX12_in 14 = .ok (.goto 4, 3) := by decide +kernel
theorem dX12_in_17 : decode cX12_in 17 = .ok (.iconst 0, 1) := by decide +kernel
theorem dX12_in_18 : decode cX12_in 18 = .ok (.ireturn, 1) := by decide +kernel
theorem dX12_see_0 : decode cX12_see 0 = .ok (.iload_n 1, 1) := by decide +kernel
theorem dX12_see_1 : decode cX12_see 1 = .ok (.i2l, 1) := by decide +kernel
theorem dX12_see_2 : decode cX12_see 2 = .ok (.lconst 0, 1) := by decide +kernel
theorem dX12_see_3 : decode cX12_see 3 = .ok (.ldc2_w 243, 3) := by decide +kernel
theorem dX12_see_6 : decode cX12_see 6 = .ok (.invokestatic 245, 3) := by decide +kernel
theorem dX12_see_9 : decode cX12_see 9 = .ok (.ifCond .eq 31, 3) := by decide +kernel
theorem dX12_see_12 : decode cX12_see 12 = .ok (.iload_n 2, 1) := by decide +kernel
theorem dX12_see_13 : decode cX12_see 13 = .ok (.i2l, 1) := by decide +kernel
theorem dX12_see_14 : decode cX12_see 14 = .ok (.lconst 0, 1) := by decide +kernel
theorem dX12_see_15 : decode cX12_see 15 = .ok (.aload_n 0, 1) := by decide +kernel
theorem dX12_see_16 : decode cX12_see 16 = .ok (.getfield 249, 3) := by decide +kernel
theorem dX12_see_19 : decode cX12_see 19 = .ok (.i2l, 1) := by decide +kernel
theorem dX12_see_20 : decode cX12_see 20 = .ok (.invokestatic 245, 3) := by decide +kernel
theorem dX12_see_23 : decode cX12_see 23 = .ok (.ifCond .eq 17, 3) := by decide +kernel
theorem dX12_see_26 : decode cX12_see 26 = .ok (.iload_n 3, 1) := by decide +kernel
theorem dX12_see_27 : decode cX12_see 27 = .ok (.i2l, 1) := by decide +kernel
theorem dX12_see_28 : decode cX12_see 28 = .ok (.ldc2_w 252, 3) := by decide +kernel
theorem dX12_see_31 : decode cX12_see 31 = .ok (.ldc2_w 254, 3) := by decide +kernel
theorem dX12_see_34 : decode cX12_see 34 = .ok (.invokestatic 245, 3) := by decide +kernel
theorem dX12_see_37 : decode cX12_see 37 = .ok (.ifCond .ne 5, 3) := by decide +kernel
theorem dX12_see_40 : decode cX12_see 40 = .ok (.iconst 0, 1) := by decide +kernel
theorem dX12_see_41 : decode cX12_see 41 = .ok (.ireturn, 1) := by decide +kernel
theorem dX12_see_42 : decode cX12_see 42 = .ok (.aload_n 0, 1) := by decide +kernel
theorem dX12_see_43 : decode cX12_see 43 = .ok (.getfield 7, 3) := by decide +kernel
theorem dX12_see_46 : decode cX12_see 46 = .ok (.sipush 400, 3) := by decide +kernel
theorem dX12_see_49 : decode cX12_see 49 = .ok (.iload_n 1, 1) := by decide +kernel
theorem dX12_see_50 : decode cX12_see 50 = .ok (.imul, 1) := by decide +kernel
theorem dX12_see_51 : decode cX12_see 51 = .ok (.iload_n 2, 1) := by decide +kernel
theorem dX12_see_52 : decode cX12_see 52 = .ok (.iadd, 1) := by decide +kernel
theorem dX12_see_53 : decode cX12_see 53 = .ok (.iload_n 3, 1) := by decide +kernel
theorem dX12_see_54 : decode cX12_see 54 = .ok (.iastore, 1) := by decide +kernel
theorem dX12_see_55 : decode cX12_see 55 = .ok (.iconst 1, 1) := by decide +kernel
theorem dX12_see_56 : decode cX12_see 56 = .ok (.ireturn, 1) := by decide +kernel
theorem dX12_thingOn_0 : decode cX12_thingOn 0 = .ok (.iload_n 2, 1) := by decide +kernel
theorem dX12_thingOn_1 : decode cX12_thingOn 1 = .ok (.istore_n 3, 1) := by decide +kernel
theorem dX12_thingOn_2 : decode cX12_thingOn 2 = .ok (.iload_n 3, 1) := by decide +kernel
theorem dX12_thingOn_3 : decode cX12_thingOn 3 = .ok (.ifCond .lt 40, 3) := by decide +kernel
theorem dX12_thingOn_6 : decode cX12_thingOn 6 = .ok (.aload_n 0, 1) := by decide +kernel
theorem dX12_thingOn_7 : decode cX12_thingOn 7 = .ok (.getfield 7, 3) := by decide +kernel
theorem dX12_thingOn_10 : decode cX12_thingOn 10 = .ok (.sipush 400, 3) := by decide +kernel
theorem dX12_thingOn_13 : decode cX12_thingOn 13 = .ok (.iload_n 1, 1) := by decide +kernel
theorem dX12_thingOn_14 : decode cX12_thingOn 14 = .ok (.imul, 1) := by decide +kernel
theorem dX12_thingOn_15 : decode cX12_thingOn 15 = .ok (.iload_n 3, 1) := by decide +kernel
theorem dX12_thingOn_16 : decode cX12_thingOn 16 = .ok (.iadd, 1) := by decide +kernel
theorem dX12_thingOn_17 : decode cX12_thingOn 17 = .ok (.iaload, 1) := by decide +kernel
theorem dX12_thingOn_18 : decode cX12_thingOn 18 = .ok (.sipush (-10000), 3) := by decide +kernel
theorem dX12_thingOn_21 : decode cX12_thingOn 21 = .ok (.if_icmp .le 16, 3) := by decide +kernel
theorem dX12_thingOn_24 : decode cX12_thingOn 24 = .ok (.aload_n 0, 1) := by decide +kernel
theorem dX12_thingOn_25 : decode cX12_thingOn 25 = .ok (.getfield 7, 3) := by decide +kernel
theorem dX12_thingOn_28 : decode cX12_thingOn 28 = .ok (.sipush 400, 3) := by decide +kernel
theorem dX12_thingOn_31 : decode cX12_thingOn 31 = .ok (.iload_n 1, 1) := by decide +kernel
theorem dX12_thingOn_32 : decode cX12_thingOn 32 = .ok (.imul, 1) := by decide +kernel
theorem dX12_thingOn_33 : decode cX12_thingOn 33 = .ok (.iload_n 3, 1) := by decide +kernel
theorem dX12_thingOn_34 : decode cX12_thingOn 34 = .ok (.iadd, 1) := by decide +kernel
theorem dX12_thingOn_35 : decode cX12_thingOn 35 = .ok (.iaload, 1) := by decide +kernel
theorem dX12_thingOn_36 : decode cX12_thingOn 36 = .ok (.ireturn, 1) := by decide +kernel
theorem dX12_thingOn_37 : decode cX12_thingOn 37 = .ok (.iinc 3 (-1), 3) := by decide +kernel
theorem dX12_thingOn_40 : decode cX12_thingOn 40 = .ok (.goto (-38), 3) := by decide +kernel
theorem dX12_thingOn_43 : decode cX12_thingOn 43 = .ok (.iconst 0, 1) := by decide +kernel
theorem dX12_thingOn_44 : decode cX12_thingOn 44 = .ok (.ireturn, 1) := by decide +kernel
theorem dX12_seen_0 : decode cX12_seen 0 = .ok (.iload_n 1, 1) := by decide +kernel
theorem dX12_seen_1 : decode cX12_seen 1 = .ok (.i2l, 1) := by decide +kernel
theorem dX12_seen_2 : decode cX12_seen 2 = .ok (.lconst 0, 1) := by decide +kernel
theorem dX12_seen_3 : decode cX12_seen 3 = .ok (.ldc2_w 243, 3) := by decide +kernel
theorem dX12_seen_6 : decode cX12_seen 6 = .ok (.invokestatic 245, 3) := by decide +kernel
theorem dX12_seen_9 : decode cX12_seen 9 = .ok (.ifCond .eq 24, 3) := by decide +kernel
theorem dX12_seen_12 : decode cX12_seen 12 = .ok (.iload_n 2, 1) := by decide +kernel
theorem dX12_seen_13 : decode cX12_seen 13 = .ok (.i2l, 1) := by decide +kernel
theorem dX12_seen_14 : decode cX12_seen 14 = .ok (.lconst 0, 1) := by decide +kernel
theorem dX12_seen_15 : decode cX12_seen 15 = .ok (.ldc2_w 256, 3) := by decide +kernel
theorem dX12_seen_18 : decode cX12_seen 18 = .ok (.invokestatic 245, 3) := by decide +kernel
theorem dX12_seen_21 : decode cX12_seen 21 = .ok (.ifCond .eq 12, 3) := by decide +kernel
theorem dX12_seen_24 : decode cX12_seen 24 = .ok (.aload_n 0, 1) := by decide +kernel
theorem dX12_seen_25 : decode cX12_seen 25 = .ok (.iload_n 1, 1) := by decide +kernel
theorem dX12_seen_26 : decode cX12_seen 26 = .ok (.iload_n 2, 1) := by decide +kernel
theorem dX12_seen_27 : decode cX12_seen 27 = .ok (.invokevirtual 258, 3) := by decide +kernel
theorem dX12_seen_30 : decode cX12_seen 30 = .ok (.goto 6, 3) := by decide +kernel
theorem dX12_seen_33 : decode cX12_seen 33 = .ok (.sipush (-10000), 3) := by decide +kernel
theorem dX12_seen_36 : decode cX12_seen 36 = .ok (.ireturn, 1) := by decide +kernel
theorem dX12_four_0 : decode cX12_four 0 = .ok (.bipush 24, 2) := by decide +kernel
theorem dX12_four_2 : decode cX12_four 2 = .ok (.istore_n 2, 1) := by decide +kernel
theorem dX12_four_3 : decode cX12_four 3 = .ok (.iload_n 2, 1) := by decide +kernel
theorem dX12_four_4 : decode cX12_four 4 = .ok (.ifCond .lt 32, 3) := by decide +kernel
theorem dX12_four_7 : decode cX12_four 7 = .ok (.aload_n 0, 1) := by decide +kernel
theorem dX12_four_8 : decode cX12_four 8 = .ok (.getfield 13, 3) := by decide +kernel
theorem dX12_four_11 : decode cX12_four 11 = .ok (.aload_n 0, 1) := by decide +kernel
theorem dX12_four_12 : decode cX12_four 12 = .ok (.getfield 262, 3) := by decide +kernel
theorem dX12_four_15 : decode cX12_four 15 = .ok (.iload_n 1, 1) := by decide +kernel
theorem dX12_four_16 : decode cX12_four 16 = .ok (.iload_n 2, 1) := by decide +kernel
theorem dX12_four_17 : decode cX12_four 17 = .ok (.ishr, 1) := by decide +kernel
theorem dX12_four_18 : decode cX12_four 18 = .ok (.i2b, 1) := by decide +kernel
theorem dX12_four_19 : decode cX12_four 19 = .ok (.bastore, 1) := by decide +kernel
theorem dX12_four_20 : decode cX12_four 20 = .ok (.aload_n 0, 1) := by decide +kernel
theorem dX12_four_21 : decode cX12_four 21 = .ok (.dup, 1) := by decide +kernel
theorem dX12_four_22 : decode cX12_four 22 = .ok (.getfield 262, 3) := by decide +kernel
theorem dX12_four_25 : decode cX12_four 25 = .ok (.iconst 1, 1) := by decide +kernel
theorem dX12_four_26 : decode cX12_four 26 = .ok (.iadd, 1) := by decide +kernel
theorem dX12_four_27 : decode cX12_four 27 = .ok (.putfield 262, 3) := by decide +kernel
theorem dX12_four_30 : decode cX12_four 30 = .ok (.iinc 2 (-8), 3) := by decide +kernel
theorem dX12_four_33 : decode cX12_four 33 = .ok (.goto (-30), 3) := by decide +kernel
theorem dX12_four_36 : decode cX12_four 36 = .ok (.return_, 1) := by decide +kernel
theorem dX12_feed_0 : decode cX12_feed 0 = .ok (.aload_n 0, 1) := by decide +kernel
theorem dX12_feed_1 : decode cX12_feed 1 = .ok (.getfield 262, 3) := by decide +kernel
theorem dX12_feed_4 : decode cX12_feed 4 = .ok (.bipush 20, 2) := by decide +kernel
theorem dX12_feed_6 : decode cX12_feed 6 = .ok (.iadd, 1) := by decide +kernel
theorem dX12_feed_7 : decode cX12_feed 7 = .ok (.sipush 400, 3) := by decide +kernel
theorem dX12_feed_10 : decode cX12_feed 10 = .ok (.if_icmp .le 5, 3) := by decide +kernel
theorem dX12_feed_13 : decode cX12_feed 13 = .ok (.iconst (-1), 1) := by decide +kernel
theorem dX12_feed_14 : decode cX12_feed 14 = .ok (.ireturn, 1) := by decide +kernel
theorem dX12_feed_15 : decode cX12_feed 15 = .ok (.aload_n 0, 1) := by decide +kernel
theorem dX12_feed_16 : decode cX12_feed 16 = .ok (.iload_n 1, 1) := by decide +kernel
theorem dX12_feed_17 : decode cX12_feed 17 = .ok (.invokevirtual 265, 3) := by decide +kernel
theorem dX12_feed_20 : decode cX12_feed 20 = .ok (.aload_n 0, 1) := by decide +kernel
theorem dX12_feed_21 : decode cX12_feed 21 = .ok (.iload_n 2, 1) := by decide +kernel
theorem dX12_feed_22 : decode cX12_feed 22 = .ok (.invokevirtual 265, 3) := by decide +kernel
theorem dX12_feed_25 : decode cX12_feed 25 = .ok (.aload_n 0, 1) := by decide +kernel
theorem dX12_feed_26 : decode cX12_feed 26 = .ok (.iload_n 3, 1) := by decide +kernel
theorem dX12_feed_27 : decode cX12_feed 27 = .ok (.invokevirtual 265, 3) := by decide +kernel
theorem dX12_feed_30 : decode cX12_feed 30 = .ok (.aload_n 0, 1) := by decide +kernel
theorem dX12_feed_31 : decode cX12_feed 31 = .ok (.iload 4, 2) := by decide +kernel
theorem dX12_feed_33 : decode cX12_feed 33 = .ok (.invokevirtual 265, 3) := by decide +kernel
theorem dX12_feed_36 : decode cX12_feed 36 = .ok (.aload_n 0, 1) := by decide +kernel
theorem dX12_feed_37 : decode cX12_feed 37 = .ok (.iload 5, 2) := by decide +kernel
theorem dX12_feed_39 : decode cX12_feed 39 = .ok (.invokevirtual 265, 3) := by decide +kernel
theorem dX12_feed_42 : decode cX12_feed 42 = .ok (.aload_n 0, 1) := by decide +kernel
theorem dX12_feed_43 : decode cX12_feed 43 = .ok (.getfield 262, 3) := by decide +kernel
theorem dX12_feed_46 : decode cX12_feed 46 = .ok (.ireturn, 1) := by decide +kernel
theorem dX12_end_0 : decode cX12_end 0 = .ok (.iload_n 1, 1) := by decide +kernel
theorem dX12_end_1 : decode cX12_end 1 = .ok (.ifCond .lt 11, 3) := by decide +kernel
theorem dX12_end_4 : decode cX12_end 4 = .ok (.iload_n 1, 1) := by decide +kernel
theorem dX12_end_5 : decode cX12_end 5 = .ok (.aload_n 0, 1) := by decide +kernel
theorem dX12_end_6 : decode cX12_end 6 = .ok (.getfield 262, 3) := by decide +kernel
theorem dX12_end_9 : decode cX12_end 9 = .ok (.if_icmp .le 5, 3) := by decide +kernel
theorem dX12_end_12 : decode cX12_end 12 = .ok (.iconst (-1), 1) := by decide +kernel
theorem dX12_end_13 : decode cX12_end 13 = .ok (.ireturn, 1) := by decide +kernel
theorem dX12_end_14 : decode cX12_end 14 = .ok (.aload_n 0, 1) := by decide +kernel
theorem dX12_end_15 : decode cX12_end 15 = .ok (.iload_n 1, 1) := by decide +kernel
theorem dX12_end_16 : decode cX12_end 16 = .ok (.putfield 262, 3) := by decide +kernel
theorem dX12_end_19 : decode cX12_end 19 = .ok (.iload_n 1, 1) := by decide +kernel
theorem dX12_end_20 : decode cX12_end 20 = .ok (.ireturn, 1) := by decide +kernel
theorem dX12_form_0 : decode cX12_form 0 = .ok (.aload_n 0, 1) := by decide +kernel
theorem dX12_form_1 : decode cX12_form 1 = .ok (.getfield 307, 3) := by decide +kernel
theorem dX12_form_4 : decode cX12_form 4 = .ok (.bipush 20, 2) := by decide +kernel
theorem dX12_form_6 : decode cX12_form 6 = .ok (.if_icmp .ne 5, 3) := by decide +kernel
theorem dX12_form_9 : decode cX12_form 9 = .ok (.iconst (-1), 1) := by decide +kernel
theorem dX12_form_10 : decode cX12_form 10 = .ok (.ireturn, 1) := by decide +kernel
theorem dX12_form_11 : decode cX12_form 11 = .ok (.aload_n 0, 1) := by decide +kernel
theorem dX12_form_12 : decode cX12_form 12 = .ok (.iconst 0, 1) := by decide +kernel
theorem dX12_form_13 : decode cX12_form 13 = .ok (.putfield 272, 3) := by decide +kernel
theorem dX12_form_16 : decode cX12_form 16 = .ok (.aload_n 0, 1) := by decide +kernel
theorem dX12_form_17 : decode cX12_form 17 = .ok (.iconst 0, 1) := by decide +kernel
theorem dX12_form_18 : decode cX12_form 18 = .ok (.putfield 269, 3) := by decide +kernel
theorem dX12_form_21 : decode cX12_form 21 = .ok (.aload_n 0, 1) := by decide +kernel
theorem dX12_form_22 : decode cX12_form 22 = .ok (.invokevirtual 334, 3) := by decide +kernel
theorem dX12_form_25 : decode cX12_form 25 = .ok (.istore_n 1, 1) := by decide +kernel
theorem dX12_form_26 : decode cX12_form 26 = .ok (.aload_n 0, 1) := by decide +kernel
theorem dX12_form_27 : decode cX12_form 27 = .ok (.iconst 0, 1) := by decide +kernel
theorem dX12_form_28 : decode cX12_form 28 = .ok (.putfield 262, 3) := by decide +kernel
theorem dX12_form_31 : decode cX12_form 31 = .ok (.iload_n 1, 1) := by decide +kernel
theorem dX12_form_32 : decode cX12_form 32 = .ok (.ifCond .ne 11, 3) := by decide +kernel
theorem dX12_form_35 : decode cX12_form 35 = .ok (.bipush (-2), 2) := by decide +kernel
theorem dX12_form_37 : decode cX12_form 37 = .ok (.aload_n 0, 1) := by decide +kernel
theorem dX12_form_38 : decode cX12_form 38 = .ok (.getfield 269, 3) := by decide +kernel
theorem dX12_form_41 : decode cX12_form 41 = .ok (.isub, 1) := by decide +kernel
theorem dX12_form_42 : decode cX12_form 42 = .ok (.ireturn, 1) := by decide +kernel
theorem dX12_form_43 : decode cX12_form 43 = .ok (.aload_n 0, 1) := by decide +kernel
theorem dX12_form_44 : decode cX12_form 44 = .ok (.dup, 1) := by decide +kernel
theorem dX12_form_45 : decode cX12_form 45 = .ok (.getfield 307, 3) := by decide +kernel
theorem dX12_form_48 : decode cX12_form 48 = .ok (.iconst 1, 1) := by decide +kernel
theorem dX12_form_49 : decode cX12_form 49 = .ok (.iadd, 1) := by decide +kernel
theorem dX12_form_50 : decode cX12_form 50 = .ok (.putfield 307, 3) := by decide +kernel
theorem dX12_form_53 : decode cX12_form 53 = .ok (.aload_n 0, 1) := by decide +kernel
theorem dX12_form_54 : decode cX12_form 54 = .ok (.getfield 307, 3) := by decide +kernel
theorem dX12_form_57 : decode cX12_form 57 = .ok (.iconst 1, 1) := by decide +kernel
theorem dX12_form_58 : decode cX12_form 58 = .ok (.isub, 1) := by decide +kernel
theorem dX12_form_59 : decode cX12_form 59 = .ok (.ireturn, 1) := by decide +kernel
theorem dX12_text_0 : decode cX12_text 0 = .ok (.aload_n 0, 1) := by decide +kernel
theorem dX12_text_1 : decode cX12_text 1 = .ok (.iconst 0, 1) := by decide +kernel
theorem dX12_text_2 : decode cX12_text 2 = .ok (.putfield 319, 3) := by decide +kernel
theorem dX12_text_5 : decode cX12_text 5 = .ok (.aload_n 0, 1) := by decide +kernel
theorem dX12_text_6 : decode cX12_text 6 = .ok (.getfield 17, 3) := by decide +kernel
theorem dX12_text_9 : decode cX12_text 9 = .ok (.aload_n 0, 1) := by decide +kernel
theorem dX12_text_10 : decode cX12_text 10 = .ok (.getfield 307, 3) := by decide +kernel
theorem dX12_text_13 : decode cX12_text 13 = .ok (.iconst 0, 1) := by decide +kernel
theorem dX12_text_14 : decode cX12_text 14 = .ok (.iastore, 1) := by decide +kernel
theorem dX12_text_15 : decode cX12_text 15 = .ok (.aload_n 0, 1) := by decide +kernel
theorem dX12_text_16 : decode cX12_text 16 = .ok (.getfield 50, 3) := by decide +kernel
theorem dX12_text_19 : decode cX12_text 19 = .ok (.aload_n 0, 1) := by decide +kernel
theorem dX12_text_20 : decode cX12_text 20 = .ok (.getfield 307, 3) := by decide +kernel
theorem dX12_text_23 : decode cX12_text 23 = .ok (.iconst 0, 1) := by decide +kernel
theorem dX12_text_24 : decode cX12_text 24 = .ok (.iastore, 1) := by decide +kernel
theorem dX12_text_25 : decode cX12_text 25 = .ok (.aload_n 0, 1) := by decide +kernel
theorem dX12_text_26 : decode cX12_text 26 = .ok (.getfield 319, 3) := by decide +kernel
theorem dX12_text_29 : decode cX12_text 29 = .ok (.istore_n 1, 1) := by decide +kernel
theorem dX12_text_30 : decode cX12_text 30 = .ok (.aload_n 0, 1) := by decide +kernel
theorem dX12_text_31 : decode cX12_text 31 = .ok (.invokevirtual 328, 3) := by decide +kernel
theorem dX12_text_34 : decode cX12_text 34 = .ok (.ifCond .ne 5, 3) := by decide +kernel
theorem dX12_text_37 : decode cX12_text 37 = .ok (.iconst 0, 1) := by decide +kernel
theorem dX12_text_38 : decode cX12_text 38 = .ok (.ireturn, 1) := by decide +kernel
theorem dX12_text_39 : decode cX12_text 39 = .ok (.aload_n 0, 1) := by decide +kernel
theorem dX12_text_40 : decode cX12_text 40 = .ok (.getfield 319, 3) := by decide +kernel
theorem dX12_text_43 : decode cX12_text 43 = .ok (.iload_n 1, 1) := by decide +kernel
theorem dX12_text_44 : decode cX12_text 44 = .ok (.if_icmp .ne 12, 3) := by decide +kernel
theorem dX12_text_47 : decode cX12_text 47 = .ok (.aload_n 0, 1) := by decide +kernel
theorem dX12_text_48 : decode cX12_text 48 = .ok (.invokevirtual 331, 3) := by decide +kernel
theorem dX12_text_51 : decode cX12_text 51 = .ok (.ifCond .ne 5, 3) := by decide +kernel
theorem dX12_text_54 : decode cX12_text 54 = .ok (.iconst 0, 1) := by decide +kernel
theorem dX12_text_55 : decode cX12_text 55 = .ok (.ireturn, 1) := by decide +kernel
theorem dX12_text_56 : decode cX12_text 56 = .ok (.aload_n 0, 1) := by decide +kernel
theorem dX12_text_57 : decode cX12_text 57 = .ok (.getfield 319, 3) := by decide +kernel
theorem dX12_text_60 : decode cX12_text 60 = .ok (.ifCond .gt (-35), 3) := by decide +kernel
theorem dX12_text_63 : decode cX12_text 63 = .ok (.aload_n 0, 1) := by decide +kernel
theorem dX12_text_64 : decode cX12_text 64 = .ok (.invokevirtual 275, 3) := by decide +kernel
theorem dX12_text_67 : decode cX12_text 67 = .ok (.iconst (-1), 1) := by decide +kernel
theorem dX12_text_68 : decode cX12_text 68 = .ok (.if_icmp .eq 15, 3) := by decide +kernel
theorem dX12_text_71 : decode cX12_text 71 = .ok (.aload_n 0, 1) := by decide +kernel
theorem dX12_text_72 : decode cX12_text 72 = .ok (.iconst 0, 1) := by decide +kernel
theorem dX12_text_73 : decode cX12_text 73 = .ok (.aload_n 0, 1) := by decide +kernel
theorem dX12_text_74 : decode cX12_text 74 = .ok (.getfield 272, 3) := by decide +kernel
theorem dX12_text_77 : decode cX12_text 77 = .ok (.invokevirtual 279, 3) := by decide +kernel
theorem dX12_text_80 : decode cX12_text 80 = .ok (.ifCond .eq 7, 3) := by decide +kernel
theorem dX12_text_83 : decode cX12_text 83 = .ok (.iconst 1, 1) := by decide +kernel
theorem dX12_text_84 : decode cX12_text 84 = .ok (.goto 4, 3) := by decide +kernel
theorem dX12_text_87 : decode cX12_text 87 = .ok (.iconst 0, 1) := by decide +kernel
theorem dX12_text_88 : decode cX12_text 88 = .ok (.ireturn, 1) := by decide +kernel
theorem dX12_begins_0 : decode cX12_begins 0 = .ok (.aload_n 0, 1) := by decide +kernel
theorem dX12_begins_1 : decode cX12_begins 1 = .ok (.invokevirtual 295, 3) := by decide +kernel
theorem dX12_begins_4 : decode cX12_begins 4 = .ok (.lstore_n 1, 1) := by decide +kernel
theorem dX12_begins_5 : decode cX12_begins 5 = .ok (.aload_n 0, 1) := by decide +kernel
theorem dX12_begins_6 : decode cX12_begins 6 = .ok (.getfield 272, 3) := by decide +kernel
theorem dX12_begins_9 : decode cX12_begins 9 = .ok (.istore_n 3, 1) := by decide +kernel
theorem dX12_begins_10 : decode cX12_begins 10 = .ok (.iconst (-1), 1) := by decide +kernel
theorem dX12_begins_11 : decode cX12_begins 11 = .ok (.istore 4, 2) := by decide +kernel
theorem dX12_begins_13 : decode cX12_begins 13 = .ok (.iconst 0, 1) := by decide +kernel
theorem dX12_begins_14 : decode cX12_begins 14 = .ok (.istore 5, 2) := by decide +kernel
theorem dX12_begins_16 : decode cX12_begins 16 = .ok (.iload 5, 2) := by decide +kernel
theorem dX12_begins_18 : decode cX12_begins 18 = .ok (.bipush 10, 2) := by decide +kernel
theorem dX12_begins_20 : decode cX12_begins 20 = .ok (.if_icmp .gt 30, 3) := by decide +kernel
theorem dX12_begins_23 : decode cX12_begins 23 = .ok (.aload_n 0, 1) := by decide +kernel
theorem dX12_begins_24 : decode cX12_begins 24 = .ok (.getfield 90, 3) := by decide +kernel
theorem dX12_begins_27 : decode cX12_begins 27 = .ok (.iload 5, 2) := by decide +kernel
theorem dX12_begins_29 : decode cX12_begins 29 = .ok (.laload, 1) := by decide +kernel
theorem dX12_begins_30 : decode cX12_begins 30 = .ok (.lload_n 1, 1) := by decide +kernel
theorem dX12_begins_31 : decode cX12_begins 31 = .ok (.lcmp, 1) := by decide +kernel
theorem dX12_begins_32 : decode cX12_begins 32 = .ok (.ifCond .ne 8, 3) := by decide +kernel
theorem dX12_begins_35 : decode cX12_begins 35 = .ok (.iload 5, 2) := by decide +kernel
theorem dX12_begins_37 : decode cX12_begins 37 = .ok (.goto 5, 3) := by decide +kernel
theorem dX12_begins_40 : decode cX12_begins 40 = .ok (.iload 4, 2) := by decide +kernel
theorem dX12_begins_42 : decode cX12_begins 42 = .ok (.istore 4, 2) := by decide +kernel
theorem dX12_begins_44 : decode cX12_begins 44 = .ok (.iinc 5 1, 3) := by decide +kernel
theorem dX12_begins_47 : decode cX12_begins 47 = .ok (.goto (-31), 3) := by decide +kernel
theorem dX12_begins_50 : decode cX12_begins 50 = .ok (.iload 4, 2) := by decide +kernel
theorem dX12_begins_52 : decode cX12_begins 52 = .ok (.ifCond .ge 10, 3) := by decide +kernel
theorem dX12_begins_55 : decode cX12_begins 55 = .ok (.aload_n 0, 1) := by decide +kernel
theorem dX12_begins_56 : decode cX12_begins 56 = .ok (.iconst 0, 1) := by decide +kernel
theorem dX12_begins_57 : decode cX12_begins 57 = .ok (.iload_n 3, 1) := by decide +kernel
theorem dX12_begins_58 : decode cX12_begins 58 = .ok (.invokevirtual 279, 3) := by decide +kernel
theorem dX12_begins_61 : decode cX12_begins 61 = .ok (.ireturn, 1) := by decide +kernel
theorem dX12_begins_62 : decode cX12_begins 62 = .ok (.aload_n 0, 1) := by decide +kernel
theorem dX12_begins_63 : decode cX12_begins 63 = .ok (.getfield 319, 3) := by decide +kernel
theorem dX12_begins_66 : decode cX12_begins 66 = .ok (.ifCond .ne 7, 3) := by decide +kernel
theorem dX12_begins_69 : decode cX12_begins 69 = .ok (.iconst (-1), 1) := by decide +kernel
theorem dX12_begins_70 : decode cX12_begins 70 = .ok (.goto 14, 3) := by decide +kernel
theorem dX12_begins_73 : decode cX12_begins 73 = .ok (.aload_n 0, 1) := by decide +kernel
theorem dX12_begins_74 : decode cX12_begins 74 = .ok (.getfield 62, 3) := by decide +kernel
theorem dX12_begins_77 : decode cX12_begins 77 = .ok (.aload_n 0, 1) := by decide +kernel
theorem dX12_begins_78 : decode cX12_begins 78 = .ok (.getfield 319, 3) := by decide +kernel
theorem dX12_begins_81 : decode cX12_begins 81 = .ok (.iconst 1, 1) := by decide +kernel
theorem dX12_begins_82 : decode cX12_begins 82 = .ok (.isub, 1) := by decide +kernel
theorem dX12_begins_83 : decode cX12_begins 83 = .ok (.iaload, 1) := by decide +kernel
theorem dX12_begins_84 : decode cX12_begins 84 = .ok (.istore 5, 2) := by decide +kernel
theorem dX12_begins_86 : decode cX12_begins 86 = .ok (.aload_n 0, 1) := by decide +kernel
theorem dX12_begins_87 : decode cX12_begins 87 = .ok (.getfield 319, 3) := by decide +kernel
theorem dX12_begins_90 : decode cX12_begins 90 = .ok (.ifCond .ne 7, 3) := by decide +kernel
theorem dX12_begins_93 : decode cX12_begins 93 = .ok (.iconst 0, 1) := by decide +kernel
theorem dX12_begins_94 : decode cX12_begins 94 = .ok (.goto 12, 3) := by decide +kernel
theorem dX12_begins_97 : decode cX12_begins 97 = .ok (.aload_n 0, 1) := by decide +kernel
theorem dX12_begins_98 : decode cX12_begins 98 = .ok (.getfield 26, 3) := by decide +kernel
theorem dX12_begins_101 : decode cX12_begins 101 = .ok (.iload 5, 2) := by decide +kernel
theorem dX12_begins_103 : decode cX12_begins 103 = .ok (.iaload, 1) := by decide +kernel
theorem dX12_begins_104 : decode cX12_begins 104 = .ok (.iconst 1, 1) := by decide +kernel
theorem dX12_begins_105 : decode cX12_begins 105 = .ok (.iadd, 1) := by decide +kernel
theorem dX12_begins_106 : decode cX12_begins 106 = .ok (.istore 6, 2) := by decide +kernel
theorem dX12_begins_108 : decode cX12_begins 108 = .ok (.iload 6, 2) := by decide +kernel
theorem dX12_begins_110 : decode cX12_begins 110 = .ok (.bipush 11, 2) := by decide +kernel
theorem dX12_begins_112 : decode cX12_begins 112 = .ok (.if_icmp .le 10, 3) := by decide +kernel
theorem dX12_begins_115 : decode cX12_begins 115 = .ok (.aload_n 0, 1) := by decide +kernel
theorem dX12_begins_116 : decode cX12_begins 116 = .ok (.iconst 2, 1) := by decide +kernel
theorem dX12_begins_117 : decode cX12_begins 117 = .ok (.iload_n 3, 1) := by decide +kernel
theorem dX12_begins_118 : decode cX12_begins 118 = .ok (.invokevirtual 279, 3) := by decide +kernel
theorem dX12_begins_121 : decode cX12_begins 121 = .ok (.ireturn, 1) := by decide +kernel
theorem dX12_begins_122 : decode cX12_begins 122 = .ok (.aload_n 0, 1) := by decide +kernel
theorem dX12_begins_123 : decode cX12_begins 123 = .ok (.getfield 17, 3) := by decide +kernel
theorem dX12_begins_126 : decode cX12_begins 126 = .ok (.aload_n 0, 1) := by decide +kernel
theorem dX12_begins_127 : decode cX12_begins 127 = .ok (.getfield 307, 3) := by decide +kernel
theorem dX12_begins_130 : decode cX12_begins 130 = .ok (.iaload, 1) := by decide +kernel
theorem dX12_begins_131 : decode cX12_begins 131 = .ok (.bipush 40, 2) := by decide +kernel
theorem dX12_begins_133 : decode cX12_begins 133 = .ok (.if_icmp .ne 10, 3) := by decide +kernel
theorem dX12_begins_136 : decode cX12_begins 136 = .ok (.aload_n 0, 1) := by decide +kernel
theorem dX12_begins_137 : decode cX12_begins 137 = .ok (.iconst 3, 1) := by decide +kernel
theorem dX12_begins_138 : decode cX12_begins 138 = .ok (.iload_n 3, 1) := by decide +kernel
theorem dX12_begins_139 : decode cX12_begins 139 = .ok (.invokevirtual 279, 3) := by decide +kernel
theorem dX12_begins_142 : decode cX12_begins 142 = .ok (.ireturn, 1) := by decide +kernel
theorem dX12_begins_143 : decode cX12_begins 143 = .ok (.aload_n 0, 1) := by decide +kernel
theorem dX12_begins_144 : decode cX12_begins 144 = .ok (.invokevirtual 310, 3) := by decide +kernel
theorem dX12_begins_147 : decode cX12_begins 147 = .ok (.bipush 40, 2) := by decide +kernel
theorem dX12_begins_149 : decode cX12_begins 149 = .ok (.aload_n 0, 1) := by decide +kernel
theorem dX12_begins_150 : decode cX12_begins 150 = .ok (.getfield 307, 3) := by decide +kernel
theorem dX12_begins_153 : decode cX12_begins 153 = .ok (.imul, 1) := by decide +kernel
theorem dX12_begins_154 : decode cX12_begins 154 = .ok (.aload_n 0, 1) := by decide +kernel
theorem dX12_begins_155 : decode cX12_begins 155 = .ok (.getfield 17, 3) := by decide +kernel
theorem dX12_begins_158 : decode cX12_begins 158 = .ok (.aload_n 0, 1) := by decide +kernel
theorem dX12_begins_159 : decode cX12_begins 159 = .ok (.getfield 307, 3) := by decide +kernel
theorem dX12_begins_162 : decode cX12_begins 162 = .ok (.iaload, 1) := by decide +kernel
theorem dX12_begins_163 : decode cX12_begins 163 = .ok (.iadd, 1) := by decide +kernel
theorem dX12_begins_164 : decode cX12_begins 164 = .ok (.istore 7, 2) := by decide +kernel
theorem dX12_begins_166 : decode cX12_begins 166 = .ok (.aload_n 0, 1) := by decide +kernel
theorem dX12_begins_167 : decode cX12_begins 167 = .ok (.getfield 17, 3) := by decide +kernel
theorem dX12_begins_170 : decode cX12_begins 170 = .ok (.aload_n 0, 1) := by decide +kernel
theorem dX12_begins_171 : decode cX12_begins 171 = .ok (.getfield 307, 3) := by decide +kernel
theorem dX12_begins_174 : decode cX12_begins 174 = .ok (.dup2, 1) := by decide +kernel
theorem dX12_begins_175 : decode cX12_begins 175 = .ok (.iaload, 1) := by decide +kernel
theorem dX12_begins_176 : decode cX12_begins 176 = .ok (.iconst 1, 1) := by decide +kernel
theorem dX12_begins_177 : decode cX12_begins 177 = .ok (.iadd, 1) := by decide +kernel
theorem dX12_begins_178 : decode cX12_begins 178 = .ok (.iastore, 1) := by decide +kernel
theorem dX12_begins_179 : decode cX12_begins 179 = .ok (.aload_n 0, 1) := by decide +kernel
theorem dX12_begins_180 : decode cX12_begins 180 = .ok (.getfield 20, 3) := by decide +kernel
theorem dX12_begins_183 : decode cX12_begins 183 = .ok (.iload 7, 2) := by decide +kernel
theorem dX12_begins_185 : decode cX12_begins 185 = .ok (.iload 4, 2) := by decide +kernel
theorem dX12_begins_187 : decode cX12_begins 187 = .ok (.iastore, 1) := by decide +kernel
theorem dX12_begins_188 : decode cX12_begins 188 = .ok (.aload_n 0, 1) := by decide +kernel
theorem dX12_begins_189 : decode cX12_begins 189 = .ok (.getfield 23, 3) := by decide +kernel
theorem dX12_begins_192 : decode cX12_begins 192 = .ok (.iload 7, 2) := by decide +kernel
theorem dX12_begins_194 : decode cX12_begins 194 = .ok (.iconst (-1), 1) := by decide +kernel
theorem dX12_begins_195 : decode cX12_begins 195 = .ok (.iastore, 1) := by decide +kernel
theorem dX12_begins_196 : decode cX12_begins 196 = .ok (.aload_n 0, 1) := by decide +kernel
theorem dX12_begins_197 : decode cX12_begins 197 = .ok (.getfield 26, 3) := by decide +kernel
theorem dX12_begins_200 : decode cX12_begins 200 = .ok (.iload 7, 2) := by decide +kernel
theorem dX12_begins_202 : decode cX12_begins 202 = .ok (.iload 6, 2) := by decide +kernel
theorem dX12_begins_204 : decode cX12_begins 204 = .ok (.iastore, 1) := by decide +kernel
theorem dX12_begins_205 : decode cX12_begins 205 = .ok (.aload_n 0, 1) := by decide +kernel
theorem dX12_begins_206 : decode cX12_begins 206 = .ok (.getfield 29, 3) := by decide +kernel
theorem dX12_begins_209 : decode cX12_begins 209 = .ok (.iload 7, 2) := by decide +kernel
theorem dX12_begins_211 : decode cX12_begins 211 = .ok (.iload 5, 2) := by decide +kernel
theorem dX12_begins_213 : decode cX12_begins 213 = .ok (.iastore, 1) := by decide +kernel
theorem dX12_begins_214 : decode cX12_begins 214 = .ok (.aload_n 0, 1) := by decide +kernel
theorem dX12_begins_215 : decode cX12_begins 215 = .ok (.getfield 38, 3) := by decide +kernel
theorem dX12_begins_218 : decode cX12_begins 218 = .ok (.iload 7, 2) := by decide +kernel
theorem dX12_begins_220 : decode cX12_begins 220 = .ok (.iconst 0, 1) := by decide +kernel
theorem dX12_begins_221 : decode cX12_begins 221 = .ok (.iastore, 1) := by decide +kernel
theorem dX12_begins_222 : decode cX12_begins 222 = .ok (.aload_n 0, 1) := by decide +kernel
theorem dX12_begins_223 : decode cX12_begins 223 = .ok (.getfield 41, 3) := by decide +kernel
theorem dX12_begins_226 : decode cX12_begins 226 = .ok (.iload 7, 2) := by decide +kernel
theorem dX12_begins_228 : decode cX12_begins 228 = .ok (.iconst 0, 1) := by decide +kernel
theorem dX12_begins_229 : decode cX12_begins 229 = .ok (.iastore, 1) := by decide +kernel
theorem dX12_begins_230 : decode cX12_begins 230 = .ok (.aload_n 0, 1) := by decide +kernel
theorem dX12_begins_231 : decode cX12_begins 231 = .ok (.getfield 44, 3) := by decide +kernel
theorem dX12_begins_234 : decode cX12_begins 234 = .ok (.iload 7, 2) := by decide +kernel
theorem dX12_begins_236 : decode cX12_begins 236 = .ok (.iconst 0, 1) := by decide +kernel
theorem dX12_begins_237 : decode cX12_begins 237 = .ok (.iastore, 1) := by decide +kernel
theorem dX12_begins_238 : decode cX12_begins 238 = .ok (.aload_n 0, 1) := by decide +kernel
theorem dX12_begins_239 : decode cX12_begins 239 = .ok (.getfield 319, 3) := by decide +kernel
theorem dX12_begins_242 : decode cX12_begins 242 = .ok (.ifCond .le 30, 3) := by decide +kernel
theorem dX12_begins_245 : decode cX12_begins 245 = .ok (.aload_n 0, 1) := by decide +kernel
theorem dX12_begins_246 : decode cX12_begins 246 = .ok (.getfield 65, 3) := by decide +kernel
theorem dX12_begins_249 : decode cX12_begins 249 = .ok (.aload_n 0, 1) := by decide +kernel
theorem dX12_begins_250 : decode cX12_begins 250 = .ok (.getfield 319, 3) := by decide +kernel
theorem dX12_begins_253 : decode cX12_begins 253 = .ok (.iconst 1, 1) := by decide +kernel
theorem dX12_begins_254 : decode cX12_begins 254 = .ok (.isub, 1) := by decide +kernel
theorem dX12_begins_255 : decode cX12_begins 255 = .ok (.iaload, 1) := by decide +kernel
theorem dX12_begins_256 : decode cX12_begins 256 = .ok (.iconst 2, 1) := by decide +kernel
theorem dX12_begins_257 : decode cX12_begins 257 = .ok (.if_icmp .ne 15, 3) := by decide +kernel
theorem dX12_begins_260 : decode cX12_begins 260 = .ok (.aload_n 0, 1) := by decide +kernel
theorem dX12_begins_261 : decode cX12_begins 261 = .ok (.getfield 35, 3) := by decide +kernel
theorem dX12_begins_264 : decode cX12_begins 264 = .ok (.iload 5, 2) := by decide +kernel
theorem dX12_begins_266 : decode cX12_begins 266 = .ok (.iload 7, 2) := by decide +kernel
theorem dX12_begins_268 : decode cX12_begins 268 = .ok (.iastore, 1) := by decide +kernel
theorem dX12_begins_269 : decode cX12_begins 269 = .ok (.goto 19, 3) := by decide +kernel
theorem dX12_begins_272 : decode cX12_begins 272 = .ok (.aload_n 0, 1) := by decide +kernel
theorem dX12_begins_273 : decode cX12_begins 273 = .ok (.getfield 319, 3) := by decide +kernel
theorem dX12_begins_276 : decode cX12_begins 276 = .ok (.ifCond .le 12, 3) := by decide +kernel
theorem dX12_begins_279 : decode cX12_begins 279 = .ok (.aload_n 0, 1) := by decide +kernel
theorem dX12_begins_280 : decode cX12_begins 280 = .ok (.getfield 32, 3) := by decide +kernel
theorem dX12_begins_283 : decode cX12_begins 283 = .ok (.iload 5, 2) := by decide +kernel
theorem dX12_begins_285 : decode cX12_begins 285 = .ok (.iload 7, 2) := by decide +kernel
theorem dX12_begins_287 : decode cX12_begins 287 = .ok (.iastore, 1) := by decide +kernel
theorem dX12_begins_288 : decode cX12_begins 288 = .ok (.iload 4, 2) := by decide +kernel
theorem dX12_begins_290 : decode cX12_begins 290 = .ok (.ifCond .eq 9, 3) := by decide +kernel
theorem dX12_begins_293 : decode cX12_begins 293 = .ok (.iload 4, 2) := by decide +kernel
theorem dX12_begins_295 : decode cX12_begins 295 = .ok (.iconst 1, 1) := by decide +kernel
theorem dX12_begins_296 : decode cX12_begins 296 = .ok (.if_icmp .ne 5, 3) := by decide +kernel
theorem dX12_begins_299 : decode cX12_begins 299 = .ok (.iconst 1, 1) := by decide +kernel
theorem dX12_begins_300 : decode cX12_begins 300 = .ok (.ireturn, 1) := by decide +kernel
theorem dX12_begins_301 : decode cX12_begins 301 = .ok (.iload 4, 2) := by decide +kernel
theorem dX12_begins_303 : decode cX12_begins 303 = .ok (.iconst 5, 1) := by decide +kernel
theorem dX12_begins_304 : decode cX12_begins 304 = .ok (.if_icmp .eq 10, 3) := by decide +kernel
theorem dX12_begins_307 : decode cX12_begins 307 = .ok (.iload 4, 2) := by decide +kernel
theorem dX12_begins_309 : decode cX12_begins 309 = .ok (.bipush 10, 2) := by decide +kernel
theorem dX12_begins_311 : decode cX12_begins 311 = .ok (.if_icmp .ne 23, 3) := by decide +kernel
theorem dX12_begins_314 : decode cX12_begins 314 = .ok (.aload_n 0, 1) := by decide +kernel
theorem dX12_begins_315 : decode cX12_begins 315 = .ok (.invokevirtual 303, 3) := by decide +kernel
theorem dX12_begins_318 : decode cX12_begins 318 = .ok (.ifCond .ne 5, 3) := by decide +kernel
theorem dX12_begins_321 : decode cX12_begins 321 = .ok (.iconst 0, 1) := by decide +kernel
theorem dX12_begins_322 : decode cX12_begins 322 = .ok (.ireturn, 1) := by decide +kernel
theorem dX12_begins_323 : decode cX12_begins 323 = .ok (.aload_n 0, 1) := by decide +kernel
theorem dX12_begins_324 : decode cX12_begins 324 = .ok (.getfield 23, 3) := by decide +kernel
theorem dX12_begins_327 : decode cX12_begins 327 = .ok (.iload 7, 2) := by decide +kernel
theorem dX12_begins_329 : decode cX12_begins 329 = .ok (.aload_n 0, 1) := by decide +kernel
theorem dX12_begins_330 : decode cX12_begins 330 = .ok (.getfield 287, 3) := by decide +kernel
theorem dX12_begins_333 : decode cX12_begins 333 = .ok (.iastore, 1) := by decide +kernel
theorem dX12_begins_334 : decode cX12_begins 334 = .ok (.iload 4, 2) := by decide +kernel
theorem dX12_begins_336 : decode cX12_begins 336 = .ok (.bipush 6, 2) := by decide +kernel
theorem dX12_begins_338 : decode cX12_begins 338 = .ok (.if_icmp .eq 17, 3) := by decide +kernel
theorem dX12_begins_341 : decode cX12_begins 341 = .ok (.iload 4, 2) := by decide +kernel
theorem dX12_begins_343 : decode cX12_begins 343 = .ok (.bipush 7, 2) := by decide +kernel
theorem dX12_begins_345 : decode cX12_begins 345 = .ok (.if_icmp .eq 10, 3) := by decide +kernel
theorem dX12_begins_348 : decode cX12_begins 348 = .ok (.iload 4, 2) := by decide +kernel
theorem dX12_begins_350 : decode cX12_begins 350 = .ok (.bipush 8, 2) := by decide +kernel
theorem dX12_begins_352 : decode cX12_begins 352 = .ok (.if_icmp .ne 23, 3) := by decide +kernel
theorem dX12_begins_355 : decode cX12_begins 355 = .ok (.aload_n 0, 1) := by decide +kernel
theorem dX12_begins_356 : decode cX12_begins 356 = .ok (.iload 7, 2) := by decide +kernel
theorem dX12_begins_358 : decode cX12_begins 358 = .ok (.invokevirtual 322, 3) := by decide +kernel
theorem dX12_begins_361 : decode cX12_begins 361 = .ok (.ifCond .eq 12, 3) := by decide +kernel
theorem dX12_begins_364 : decode cX12_begins 364 = .ok (.aload_n 0, 1) := by decide +kernel
theorem dX12_begins_365 : decode cX12_begins 365 = .ok (.bipush 58, 2) := by decide +kernel
theorem dX12_begins_367 : decode cX12_begins 367 = .ok (.invokevirtual 325, 3) := by decide +kernel
theorem dX12_begins_370 : decode cX12_begins 370 = .ok (.ifCond .ne 5, 3) := by decide +kernel
theorem dX12_begins_373 : decode cX12_begins 373 = .ok (.iconst 0, 1) := by decide +kernel
theorem dX12_begins_374 : decode cX12_begins 374 = .ok (.ireturn, 1) := by decide +kernel
theorem dX12_begins_375 : decode cX12_begins 375 = .ok (.iload 4, 2) := by decide +kernel
theorem dX12_begins_377 : decode cX12_begins 377 = .ok (.bipush 9, 2) := by decide +kernel
theorem dX12_begins_379 : decode cX12_begins 379 = .ok (.if_icmp .ne 69, 3) := by decide +kernel
theorem dX12_begins_382 : decode cX12_begins 382 = .ok (.aload_n 0, 1) := by decide +kernel
theorem dX12_begins_383 : decode cX12_begins 383 = .ok (.getfield 38, 3) := by decide +kernel
theorem dX12_begins_386 : decode cX12_begins 386 = .ok (.iload 7, 2) := by decide +kernel
theorem dX12_begins_388 : decode cX12_begins 388 = .ok (.aload_n 0, 1) := by decide +kernel
theorem dX12_begins_389 : decode cX12_begins 389 = .ok (.getfield 50, 3) := by decide +kernel
theorem dX12_begins_392 : decode cX12_begins 392 = .ok (.aload_n 0, 1) := by decide +kernel
theorem dX12_begins_393 : decode cX12_begins 393 = .ok (.getfield 307, 3) := by decide +kernel
theorem dX12_begins_396 : decode cX12_begins 396 = .ok (.iaload, 1) := by decide +kernel
theorem dX12_begins_397 : decode cX12_begins 397 = .ok (.iastore, 1) := by decide +kernel
theorem dX12_begins_398 : decode cX12_begins 398 = .ok (.aload_n 0, 1) := by decide +kernel
theorem dX12_begins_399 : decode cX12_begins 399 = .ok (.invokevirtual 316, 3) := by decide +kernel
theorem dX12_begins_402 : decode cX12_begins 402 = .ok (.ifCond .ne 5, 3) := by decide +kernel
theorem dX12_begins_405 : decode cX12_begins 405 = .ok (.iconst 0, 1) := by decide +kernel
theorem dX12_begins_406 : decode cX12_begins 406 = .ok (.ireturn, 1) := by decide +kernel
theorem dX12_begins_407 : decode cX12_begins 407 = .ok (.aload_n 0, 1) := by decide +kernel
theorem dX12_begins_408 : decode cX12_begins 408 = .ok (.getfield 41, 3) := by decide +kernel
theorem dX12_begins_411 : decode cX12_begins 411 = .ok (.iload 7, 2) := by decide +kernel
theorem dX12_begins_413 : decode cX12_begins 413 = .ok (.aload_n 0, 1) := by decide +kernel
theorem dX12_begins_414 : decode cX12_begins 414 = .ok (.getfield 50, 3) := by decide +kernel
theorem dX12_begins_417 : decode cX12_begins 417 = .ok (.aload_n 0, 1) := by decide +kernel
theorem dX12_begins_418 : decode cX12_begins 418 = .ok (.getfield 307, 3) := by decide +kernel
theorem dX12_begins_421 : decode cX12_begins 421 = .ok (.iaload, 1) := by decide +kernel
theorem dX12_begins_422 : decode cX12_begins 422 = .ok (.iastore, 1) := by decide +kernel
theorem dX12_begins_423 : decode cX12_begins 423 = .ok (.aload_n 0, 1) := by decide +kernel
theorem dX12_begins_424 : decode cX12_begins 424 = .ok (.getfield 44, 3) := by decide +kernel
theorem dX12_begins_427 : decode cX12_begins 427 = .ok (.iload 7, 2) := by decide +kernel
theorem dX12_begins_429 : decode cX12_begins 429 = .ok (.aload_n 0, 1) := by decide +kernel
theorem dX12_begins_430 : decode cX12_begins 430 = .ok (.getfield 41, 3) := by decide +kernel
theorem dX12_begins_433 : decode cX12_begins 433 = .ok (.iload 7, 2) := by decide +kernel
theorem dX12_begins_435 : decode cX12_begins 435 = .ok (.iaload, 1) := by decide +kernel
theorem dX12_begins_436 : decode cX12_begins 436 = .ok (.iastore, 1) := by decide +kernel
theorem dX12_begins_437 : decode cX12_begins 437 = .ok (.aload_n 0, 1) := by decide +kernel
theorem dX12_begins_438 : decode cX12_begins 438 = .ok (.bipush 58, 2) := by decide +kernel
theorem dX12_begins_440 : decode cX12_begins 440 = .ok (.invokevirtual 325, 3) := by decide +kernel
theorem dX12_begins_443 : decode cX12_begins 443 = .ok (.ifCond .ne 5, 3) := by decide +kernel
theorem dX12_begins_446 : decode cX12_begins 446 = .ok (.iconst 0, 1) := by decide +kernel
theorem dX12_begins_447 : decode cX12_begins 447 = .ok (.ireturn, 1) := by decide +kernel
theorem dX12_begins_448 : decode cX12_begins 448 = .ok (.iload 4, 2) := by decide +kernel
theorem dX12_begins_450 : decode cX12_begins 450 = .ok (.iconst 3, 1) := by decide +kernel
theorem dX12_begins_451 : decode cX12_begins 451 = .ok (.if_icmp .eq 15, 3) := by decide +kernel
theorem dX12_begins_454 : decode cX12_begins 454 = .ok (.iload 4, 2) := by decide +kernel
theorem dX12_begins_456 : decode cX12_begins 456 = .ok (.iconst 4, 1) := by decide +kernel
theorem dX12_begins_457 : decode cX12_begins 457 = .ok (.if_icmp .eq 9, 3) := by decide +kernel
theorem dX12_begins_460 : decode cX12_begins 460 = .ok (.iload 4, 2) := by decide +kernel
theorem dX12_begins_462 : decode cX12_begins 462 = .ok (.iconst 5, 1) := by decide +kernel
theorem dX12_begins_463 : decode cX12_begins 463 = .ok (.if_icmp .ne 7, 3) := by decide +kernel
theorem dX12_begins_466 : decode cX12_begins 466 = .ok (.iconst 1, 1) := by decide +kernel
theorem dX12_begins_467 : decode cX12_begins 467 = .ok (.goto 4, 3) := by decide +kernel
theorem dX12_begins_470 : decode cX12_begins 470 = .ok (.iconst 0, 1) := by decide +kernel
theorem dX12_begins_471 : decode cX12_begins 471 = .ok (.istore 8, 2) := by decide +kernel
theorem dX12_begins_473 : decode cX12_begins 473 = .ok (.iload 8, 2) := by decide +kernel
theorem dX12_begins_475 : decode cX12_begins 475 = .ok (.ifCond .eq 14, 3) := by decide +kernel
theorem dX12_begins_478 : decode cX12_begins 478 = .ok (.aload_n 0, 1) := by decide +kernel
theorem dX12_begins_479 : decode cX12_begins 479 = .ok (.bipush 40, 2) := by decide +kernel
theorem dX12_begins_481 : decode cX12_begins 481 = .ok (.invokevirtual 325, 3) := by decide +kernel
theorem dX12_begins_484 : decode cX12_begins 484 = .ok (.ifCond .ne 5, 3) := by decide +kernel
theorem dX12_begins_487 : decode cX12_begins 487 = .ok (.iconst 0, 1) := by decide +kernel
theorem dX12_begins_488 : decode cX12_begins 488 = .ok (.ireturn, 1) := by decide +kernel
theorem dX12_begins_489 : decode cX12_begins 489 = .ok (.aload_n 0, 1) := by decide +kernel
theorem dX12_begins_490 : decode cX12_begins 490 = .ok (.getfield 62, 3) := by decide +kernel
theorem dX12_begins_493 : decode cX12_begins 493 = .ok (.aload_n 0, 1) := by decide +kernel
theorem dX12_begins_494 : decode cX12_begins 494 = .ok (.getfield 319, 3) := by decide +kernel
theorem dX12_begins_497 : decode cX12_begins 497 = .ok (.iload 7, 2) := by decide +kernel
theorem dX12_begins_499 : decode cX12_begins 499 = .ok (.iastore, 1) := by decide +kernel
theorem dX12_begins_500 : decode cX12_begins 500 = .ok (.aload_n 0, 1) := by decide +kernel
theorem dX12_begins_501 : decode cX12_begins 501 = .ok (.getfield 65, 3) := by decide +kernel
theorem dX12_begins_504 : decode cX12_begins 504 = .ok (.aload_n 0, 1) := by decide +kernel
theorem dX12_begins_505 : decode cX12_begins 505 = .ok (.getfield 319, 3) := by decide +kernel
theorem dX12_begins_508 : decode cX12_begins 508 = .ok (.iload 8, 2) := by decide +kernel
theorem dX12_begins_510 : decode cX12_begins 510 = .ok (.ifCond .eq 7, 3) := by decide +kernel
theorem dX12_begins_513 : decode cX12_begins 513 = .ok (.iconst 1, 1) := by decide +kernel
theorem dX12_begins_514 : decode cX12_begins 514 = .ok (.goto 4, 3) := by decide +kernel
theorem dX12_begins_517 : decode cX12_begins 517 = .ok (.iconst 0, 1) := by decide +kernel
theorem dX12_begins_518 : decode cX12_begins 518 = .ok (.iastore, 1) := by decide +kernel
theorem dX12_begins_519 : decode cX12_begins 519 = .ok (.aload_n 0, 1) := by decide +kernel
theorem dX12_begins_520 : decode cX12_begins 520 = .ok (.dup, 1) := by decide +kernel
theorem dX12_begins_521 : decode cX12_begins 521 = .ok (.getfield 319, 3) := by decide +kernel
theorem dX12_begins_524 : decode cX12_begins 524 = .ok (.iconst 1, 1) := by decide +kernel
theorem dX12_begins_525 : decode cX12_begins 525 = .ok (.iadd, 1) := by decide +kernel
theorem dX12_begins_526 : decode cX12_begins 526 = .ok (.putfield 319, 3) := by decide +kernel
theorem dX12_begins_529 : decode cX12_begins 529 = .ok (.iconst 1, 1) := by decide +kernel
theorem dX12_begins_530 : decode cX12_begins 530 = .ok (.ireturn, 1) := by decide +kernel
theorem dX12_letters_0 : decode cX12_letters 0 = .ok (.aload_n 0, 1) := by decide +kernel
theorem dX12_letters_1 : decode cX12_letters 1 = .ok (.invokevirtual 275, 3) := by decide +kernel
theorem dX12_letters_4 : decode cX12_letters 4 = .ok (.pop, 1) := by decide +kernel
theorem dX12_letters_5 : decode cX12_letters 5 = .ok (.lconst 0, 1) := by decide +kernel
theorem dX12_letters_6 : decode cX12_letters 6 = .ok (.lstore_n 1, 1) := by decide +kernel
theorem dX12_letters_7 : decode cX12_letters 7 = .ok (.iconst 0, 1) := by decide +kernel
theorem dX12_letters_8 : decode cX12_letters 8 = .ok (.istore_n 3, 1) := by decide +kernel
theorem dX12_letters_9 : decode cX12_letters 9 = .ok (.aload_n 0, 1) := by decide +kernel
theorem dX12_letters_10 : decode cX12_letters 10 = .ok (.aload_n 0, 1) := by decide +kernel
theorem dX12_letters_11 : decode cX12_letters 11 = .ok (.getfield 272, 3) := by decide +kernel
theorem dX12_letters_14 : decode cX12_letters 14 = .ok (.iload_n 3, 1) := by decide +kernel
theorem dX12_letters_15 : decode cX12_letters 15 = .ok (.iadd, 1) := by decide +kernel
theorem dX12_letters_16 : decode cX12_letters 16 = .ok (.invokevirtual 290, 3) := by decide +kernel
theorem dX12_letters_19 : decode cX12_letters 19 = .ok (.ifCond .eq 33, 3) := by decide +kernel
theorem dX12_letters_22 : decode cX12_letters 22 = .ok (.iload_n 3, 1) := by decide +kernel
theorem dX12_letters_23 : decode cX12_letters 23 = .ok (.bipush 7, 2) := by decide +kernel
theorem dX12_letters_25 : decode cX12_letters 25 = .ok (.if_icmp .ge 21, 3) := by decide +kernel
theorem dX12_letters_28 : decode cX12_letters 28 = .ok (.lload_n 1, 1) := by decide +kernel
theorem dX12_letters_29 : decode cX12_letters 29 = .ok (.bipush 8, 2) := by decide +kernel
theorem dX12_letters_31 : decode cX12_letters 31 = .ok (.lshl, 1) := by decide +kernel
theorem dX12_letters_32 : decode cX12_letters 32 = .ok (.aload_n 0, 1) := by decide +kernel
theorem dX12_letters_33 : decode cX12_letters 33 = .ok (.getfield 13, 3) := by decide +kernel
theorem dX12_letters_36 : decode cX12_letters 36 = .ok (.aload_n 0, 1) := by decide +kernel
theorem dX12_letters_37 : decode cX12_letters 37 = .ok (.getfield 272, 3) := by decide +kernel
theorem dX12_letters_40 : decode cX12_letters 40 = .ok (.iload_n 3, 1) := by decide +kernel
theorem dX12_letters_41 : decode cX12_letters 41 = .ok (.iadd, 1) := by decide +kernel
theorem dX12_letters_42 : decode cX12_letters 42 = .ok (.baload, 1) := by decide +kernel
theorem dX12_letters_43 : decode cX12_letters 43 = .ok (.i2l, 1) := by decide +kernel
theorem dX12_letters_44 : decode cX12_letters 44 = .ok (.lor, 1) := by decide +kernel
theorem dX12_letters_45 : decode cX12_letters 45 = .ok (.lstore_n 1, 1) := by decide +kernel
theorem dX12_letters_46 : decode cX12_letters 46 = .ok (.iinc 3 1, 3) := by decide +kernel
theorem dX12_letters_49 : decode cX12_letters 49 = .ok (.goto (-40), 3) := by decide +kernel
theorem dX12_letters_52 : decode cX12_letters 52 = .ok (.iload_n 3, 1) := by decide +kernel
theorem dX12_letters_53 : decode cX12_letters 53 = .ok (.bipush 7, 2) := by decide +kernel
theorem dX12_letters_55 : decode cX12_letters 55 = .ok (.if_icmp .le 9, 3) := by decide +kernel
theorem dX12_letters_58 : decode cX12_letters 58 = .ok (.ldc2_w 293, 3) := by decide +kernel
theorem dX12_letters_61 : decode cX12_letters 61 = .ok (.goto 4, 3) := by decide +kernel
theorem dX12_letters_64 : decode cX12_letters 64 = .ok (.lload_n 1, 1) := by decide +kernel
theorem dX12_letters_65 : decode cX12_letters 65 = .ok (.lreturn, 1) := by decide +kernel
theorem dX12_see__0 : decode cX12_see_ 0 = .ok (.aload_n 0, 1) := by decide +kernel
theorem dX12_see__1 : decode cX12_see_ 1 = .ok (.getfield 272, 3) := by decide +kernel
theorem dX12_see__4 : decode cX12_see_ 4 = .ok (.aload_n 0, 1) := by decide +kernel
theorem dX12_see__5 : decode cX12_see_ 5 = .ok (.getfield 262, 3) := by decide +kernel
theorem dX12_see__8 : decode cX12_see_ 8 = .ok (.if_icmp .ge 30, 3) := by decide +kernel
theorem dX12_see__11 : decode cX12_see_ 11 = .ok (.aload_n 0, 1) := by decide +kernel
theorem dX12_see__12 : decode cX12_see_ 12 = .ok (.getfield 13, 3) := by decide +kernel
theorem dX12_see__15 : decode cX12_see_ 15 = .ok (.aload_n 0, 1) := by decide +kernel
theorem dX12_see__16 : decode cX12_see_ 16 = .ok (.getfield 272, 3) := by decide +kernel
theorem dX12_see__19 : decode cX12_see_ 19 = .ok (.baload, 1) := by decide +kernel
theorem dX12_see__20 : decode cX12_see_ 20 = .ok (.bipush 32, 2) := by decide +kernel
theorem dX12_see__22 : decode cX12_see_ 22 = .ok (.if_icmp .ne 16, 3) := by decide +kernel
theorem dX12_see__25 : decode cX12_see_ 25 = .ok (.aload_n 0, 1) := by decide +kernel
theorem dX12_see__26 : decode cX12_see_ 26 = .ok (.dup, 1) := by decide +kernel
theorem dX12_see__27 : decode cX12_see_ 27 = .ok (.getfield 272, 3) := by decide +kernel
theorem dX12_see__30 : decode cX12_see_ 30 = .ok (.iconst 1, 1) := by decide +kernel
theorem dX12_see__31 : decode cX12_see_ 31 = .ok (.iadd, 1) := by decide +kernel
theorem dX12_see__32 : decode cX12_see_ 32 = .ok (.putfield 272, 3) := by decide +kernel
theorem dX12_see__35 : decode cX12_see_ 35 = .ok (.goto (-35), 3) := by decide +kernel
theorem dX12_see__38 : decode cX12_see_ 38 = .ok (.aload_n 0, 1) := by decide +kernel
theorem dX12_see__39 : decode cX12_see_ 39 = .ok (.getfield 272, 3) := by decide +kernel
theorem dX12_see__42 : decode cX12_see_ 42 = .ok (.aload_n 0, 1) := by decide +kernel
theorem dX12_see__43 : decode cX12_see_ 43 = .ok (.getfield 262, 3) := by decide +kernel
theorem dX12_see__46 : decode cX12_see_ 46 = .ok (.if_icmp .ge 19, 3) := by decide +kernel
theorem dX12_see__49 : decode cX12_see_ 49 = .ok (.aload_n 0, 1) := by decide +kernel
theorem dX12_see__50 : decode cX12_see_ 50 = .ok (.getfield 13, 3) := by decide +kernel
theorem dX12_see__53 : decode cX12_see_ 53 = .ok (.aload_n 0, 1) := by decide +kernel
theorem dX12_see__54 : decode cX12_see_ 54 = .ok (.getfield 272, 3) := by decide +kernel
theorem dX12_see__57 : decode cX12_see_ 57 = .ok (.baload, 1) := by decide +kernel
theorem dX12_see__58 : decode cX12_see_ 58 = .ok (.sipush 255, 3) := by decide +kernel
theorem dX12_see__61 : decode cX12_see_ 61 = .ok (.iand, 1) := by decide +kernel
theorem dX12_see__62 : decode cX12_see_ 62 = .ok (.goto 4, 3) := by decide +kernel
theorem dX12_see__65 : decode cX12_see_ 65 = .ok (.iconst (-1), 1) := by decide +kernel
theorem dX12_see__66 : decode cX12_see_ 66 = .ok (.ireturn, 1) := by decide +kernel
theorem dX12_isLetter_0 : decode cX12_isLetter 0 = .ok (.iload_n 1, 1) := by decide +kernel
theorem dX12_isLetter_1 : decode cX12_isLetter 1 = .ok (.aload_n 0, 1) := by decide +kernel
theorem dX12_isLetter_2 : decode cX12_isLetter 2 = .ok (.getfield 262, 3) := by decide +kernel
theorem dX12_isLetter_5 : decode cX12_isLetter 5 = .ok (.if_icmp .ge 29, 3) := by decide +kernel
theorem dX12_isLetter_8 : decode cX12_isLetter 8 = .ok (.aload_n 0, 1) := by decide +kernel
theorem dX12_isLetter_9 : decode cX12_isLetter 9 = .ok (.getfield 13, 3) := by decide +kernel
theorem dX12_isLetter_12 : decode cX12_isLetter 12 = .ok (.iload_n 1, 1) := by decide +kernel
theorem dX12_isLetter_13 : decode cX12_isLetter 13 = .ok (.baload, 1) := by decide +kernel
theorem dX12_isLetter_14 : decode cX12_isLetter 14 = .ok (.bipush 97, 2) := by decide +kernel
theorem dX12_isLetter_16 : decode cX12_isLetter 16 = .ok (.if_icmp .lt 18, 3) := by decide +kernel
theorem dX12_isLetter_19 : decode cX12_isLetter 19 = .ok (.aload_n 0, 1) := by decide +kernel
theorem dX12_isLetter_20 : decode cX12_isLetter 20 = .ok (.getfield 13, 3) := by decide +kernel
theorem dX12_isLetter_23 : decode cX12_isLetter 23 = .ok (.iload_n 1, 1) := by decide +kernel
theorem dX12_isLetter_24 : decode cX12_isLetter 24 = .ok (.baload, 1) := by decide +kernel
theorem dX12_isLetter_25 : decode cX12_isLetter 25 = .ok (.bipush 122, 2) := by decide +kernel
theorem dX12_isLetter_27 : decode cX12_isLetter 27 = .ok (.if_icmp .gt 7, 3) := by decide +kernel
theorem dX12_isLetter_30 : decode cX12_isLetter 30 = .ok (.iconst 1, 1) := by decide +kernel
theorem dX12_isLetter_31 : decode cX12_isLetter 31 = .ok (.goto 4, 3) := by decide +kernel
theorem dX12_isLetter_34 : decode cX12_isLetter 34 = .ok (.iconst 0, 1) := by decide +kernel
theorem dX12_isLetter_35 : decode cX12_isLetter 35 = .ok (.ireturn, 1) := by decide +kernel
theorem dX12_fails_0 : decode cX12_fails 0 = .ok (.aload_n 0, 1) := by decide +kernel
theorem dX12_fails_1 : decode cX12_fails 1 = .ok (.getfield 269, 3) := by decide +kernel
theorem dX12_fails_4 : decode cX12_fails 4 = .ok (.ifCond .ne 15, 3) := by decide +kernel
theorem dX12_fails_7 : decode cX12_fails 7 = .ok (.aload_n 0, 1) := by decide +kernel
theorem dX12_fails_8 : decode cX12_fails 8 = .ok (.iconst 1, 1) := by decide +kernel
theorem dX12_fails_9 : decode cX12_fails 9 = .ok (.bipush 8, 2) := by decide +kernel
theorem dX12_fails_11 : decode cX12_fails 11 = .ok (.iload_n 2, 1) := by decide +kernel
theorem dX12_fails_12 : decode cX12_fails 12 = .ok (.imul, 1) := by decide +kernel
theorem dX12_fails_13 : decode cX12_fails 13 = .ok (.iadd, 1) := by decide +kernel
theorem dX12_fails_14 : decode cX12_fails 14 = .ok (.iload_n 1, 1) := by decide +kernel
theorem dX12_fails_15 : decode cX12_fails 15 = .ok (.iadd, 1) := by decide +kernel
theorem dX12_fails_16 : decode cX12_fails 16 = .ok (.putfield 269, 3) := by decide +kernel
theorem dX12_fails_19 : decode cX12_fails 19 = .ok (.iconst 0, 1) := by decide +kernel
theorem dX12_fails_20 : decode cX12_fails 20 = .ok (.ireturn, 1) := by decide +kernel
theorem dX12_isForm_0 : decode cX12_isForm 0 = .ok (.iload_n 1, 1) := by decide +kernel
theorem dX12_isForm_1 : decode cX12_isForm 1 = .ok (.ifCond .lt 15, 3) := by decide +kernel
theorem dX12_isForm_4 : decode cX12_isForm 4 = .ok (.iload_n 1, 1) := by decide +kernel
theorem dX12_isForm_5 : decode cX12_isForm 5 = .ok (.aload_n 0, 1) := by decide +kernel
theorem dX12_isForm_6 : decode cX12_isForm 6 = .ok (.getfield 307, 3) := by decide +kernel
theorem dX12_isForm_9 : decode cX12_isForm 9 = .ok (.if_icmp .ge 7, 3) := by decide +kernel
theorem dX12_isForm_12 : decode cX12_isForm 12 = .ok (.iconst 1, 1) := by decide +kernel
theorem dX12_isForm_13 : decode cX12_isForm 13 = .ok (.goto 4, 3) := by decide +kernel
theorem dX12_isForm_16 : decode cX12_isForm 16 = .ok (.iconst 0, 1) := by decide +kernel
theorem dX12_isForm_17 : decode cX12_isForm 17 = .ok (.ireturn, 1) := by decide +kernel
theorem dX12_word_0 : decode cX12_word 0 = .ok (.aload_n 0, 1) := by decide +kernel
theorem dX12_word_1 : decode cX12_word 1 = .ok (.iload_n 1, 1) := by decide +kernel
theorem dX12_word_2 : decode cX12_word 2 = .ok (.invokevirtual 337, 3) := by decide +kernel
theorem dX12_word_5 : decode cX12_word 5 = .ok (.ifCond .eq 21, 3) := by decide +kernel
theorem dX12_word_8 : decode cX12_word 8 = .ok (.iload_n 2, 1) := by decide +kernel
theorem dX12_word_9 : decode cX12_word 9 = .ok (.i2l, 1) := by decide +kernel
theorem dX12_word_10 : decode cX12_word 10 = .ok (.lconst 0, 1) := by decide +kernel
theorem dX12_word_11 : decode cX12_word 11 = .ok (.aload_n 0, 1) := by decide +kernel
theorem dX12_word_12 : decode cX12_word 12 = .ok (.getfield 17, 3) := by decide +kernel
theorem dX12_word_15 : decode cX12_word 15 = .ok (.iload_n 1, 1) := by decide +kernel
theorem dX12_word_16 : decode cX12_word 16 = .ok (.iaload, 1) := by decide +kernel
theorem dX12_word_17 : decode cX12_word 17 = .ok (.iconst 1, 1) := by decide +kernel
theorem dX12_word_18 : decode cX12_word 18 = .ok (.isub, 1) := by decide +kernel
theorem dX12_word_19 : decode cX12_word 19 = .ok (.i2l, 1) := by decide +kernel
theorem dX12_word_20 : decode cX12_word 20 = .ok (.invokestatic 245, 3) := by decide +kernel
theorem dX12_word_23 : decode cX12_word 23 = .ok (.ifCond .ne 5, 3) := by decide +kernel
theorem dX12_word_26 : decode cX12_word 26 = .ok (.iconst (-1), 1) := by decide +kernel
theorem dX12_word_27 : decode cX12_word 27 = .ok (.ireturn, 1) := by decide +kernel
theorem dX12_word_28 : decode cX12_word 28 = .ok (.bipush 40, 2) := by decide +kernel
theorem dX12_word_30 : decode cX12_word 30 = .ok (.iload_n 1, 1) := by decide +kernel
theorem dX12_word_31 : decode cX12_word 31 = .ok (.imul, 1) := by decide +kernel
theorem dX12_word_32 : decode cX12_word 32 = .ok (.iload_n 2, 1) := by decide +kernel
theorem dX12_word_33 : decode cX12_word 33 = .ok (.iadd, 1) := by decide +kernel
theorem dX12_word_34 : decode cX12_word 34 = .ok (.istore 4, 2) := by decide +kernel
theorem dX12_word_36 : decode cX12_word 36 = .ok (.iload_n 3, 1) := by decide +kernel
theorem dX12_word_37 : decode cX12_word 37 = .ok (.ifCond .ne 13, 3) := by decide +kernel
theorem dX12_word_40 : decode cX12_word 40 = .ok (.aload_n 0, 1) := by decide +kernel
theorem dX12_word_41 : decode cX12_word 41 = .ok (.getfield 20, 3) := by decide +kernel
theorem dX12_word_44 : decode cX12_word 44 = .ok (.iload 4, 2) := by decide +kernel
theorem dX12_word_46 : decode cX12_word 46 = .ok (.iaload, 1) := by decide +kernel
theorem dX12_word_47 : decode cX12_word 47 = .ok (.goto 34, 3) := by decide +kernel
theorem dX12_word_50 : decode cX12_word 50 = .ok (.iload_n 3, 1) := by decide +kernel
theorem dX12_word_51 : decode cX12_word 51 = .ok (.iconst 1, 1) := by decide +kernel
theorem dX12_word_52 : decode cX12_word 52 = .ok (.if_icmp .ne 13, 3) := by decide +kernel
theorem dX12_word_55 : decode cX12_word 55 = .ok (.aload_n 0, 1) := by decide +kernel
theorem dX12_word_56 : decode cX12_word 56 = .ok (.getfield 26, 3) := by decide +kernel
theorem dX12_word_59 : decode cX12_word 59 = .ok (.iload 4, 2) := by decide +kernel
theorem dX12_word_61 : decode cX12_word 61 = .ok (.iaload, 1) := by decide +kernel
theorem dX12_word_62 : decode cX12_word 62 = .ok (.goto 19, 3) := by decide +kernel
theorem dX12_word_65 : decode cX12_word 65 = .ok (.iload_n 3, 1) := by decide +kernel
theorem dX12_word_66 : decode cX12_word 66 = .ok (.iconst 2, 1) := by decide +kernel
theorem dX12_word_67 : decode cX12_word 67 = .ok (.if_icmp .ne 13, 3) := by decide +kernel
theorem dX12_word_70 : decode cX12_word 70 = .ok (.aload_n 0, 1) := by decide +kernel
theorem dX12_word_71 : decode cX12_word 71 = .ok (.getfield 23, 3) := by decide +kernel
theorem dX12_word_74 : decode cX12_word 74 = .ok (.iload 4, 2) := by decide +kernel
theorem dX12_word_76 : decode cX12_word 76 = .ok (.iaload, 1) := by decide +kernel
theorem dX12_word_77 : decode cX12_word 77 = .ok (.goto 4, 3) := by decide +kernel
theorem dX12_word_80 : decode cX12_word 80 = .ok (.iconst (-1), 1) := by decide +kernel
theorem dX12_word_81 : decode cX12_word 81 = .ok (.ireturn, 1) := by decide +kernel
theorem dX12_words_0 : decode cX12_words 0 = .ok (.aload_n 0, 1) := by decide +kernel
theorem dX12_words_1 : decode cX12_words 1 = .ok (.iload_n 1, 1) := by decide +kernel
theorem dX12_words_2 : decode cX12_words 2 = .ok (.invokevirtual 337, 3) := by decide +kernel
theorem dX12_words_5 : decode cX12_words 5 = .ok (.ifCond .eq 12, 3) := by decide +kernel
theorem dX12_words_8 : decode cX12_words 8 = .ok (.aload_n 0, 1) := by decide +kernel
theorem dX12_words_9 : decode cX12_words 9 = .ok (.getfield 17, 3) := by decide +kernel
theorem dX12_words_12 : decode cX12_words 12 = .ok (.iload_n 1, 1) := by decide +kernel
theorem dX12_words_13 : decode cX12_words 13 = .ok (.iaload, 1) := by decide +kernel
theorem dX12_words_14 : decode cX12_words 14 = .ok (.goto 4, 3) := by decide +kernel
theorem dX12_words_17 : decode cX12_words 17 = .ok (.iconst (-1), 1) := by decide +kernel
theorem dX12_words_18 : decode cX12_words 18 = .ok (.ireturn, 1) := by decide +kernel
theorem dX12_shorter_0 : decode cX12_shorter 0 = .ok (.aload_n 0, 1) := by decide +kernel
theorem dX12_shorter_1 : decode cX12_shorter 1 = .ok (.iload_n 1, 1) := by decide +kernel
theorem dX12_shorter_2 : decode cX12_shorter 2 = .ok (.invokevirtual 337, 3) := by decide +kernel
theorem dX12_shorter_5 : decode cX12_shorter 5 = .ok (.ifCond .eq 12, 3) := by decide +kernel
theorem dX12_shorter_8 : decode cX12_shorter 8 = .ok (.aload_n 0, 1) := by decide +kernel
theorem dX12_shorter_9 : decode cX12_shorter 9 = .ok (.getfield 307, 3) := by decide +kernel
theorem dX12_shorter_12 : decode cX12_shorter 12 = .ok (.bipush 20, 2) := by decide +kernel
theorem dX12_shorter_14 : decode cX12_shorter 14 = .ok (.if_icmp .ne 5, 3) := by decide +kernel
theorem dX12_shorter_17 : decode cX12_shorter 17 = .ok (.iconst (-1), 1) := by decide +kernel
theorem dX12_shorter_18 : decode cX12_shorter 18 = .ok (.ireturn, 1) := by decide +kernel
theorem dX12_shorter_19 : decode cX12_shorter 19 = .ok (.aload_n 0, 1) := by decide +kernel
theorem dX12_shorter_20 : decode cX12_shorter 20 = .ok (.iload_n 1, 1) := by decide +kernel
theorem dX12_shorter_21 : decode cX12_shorter 21 = .ok (.iconst 0, 1) := by decide +kernel
theorem dX12_shorter_22 : decode cX12_shorter 22 = .ok (.invokevirtual 535, 3) := by decide +kernel
theorem dX12_shorter_25 : decode cX12_shorter 25 = .ok (.aload_n 0, 1) := by decide +kernel
theorem dX12_shorter_26 : decode cX12_shorter 26 = .ok (.aload_n 0, 1) := by decide +kernel
theorem dX12_shorter_27 : decode cX12_shorter 27 = .ok (.getfield 228, 3) := by decide +kernel
theorem dX12_shorter_30 : decode cX12_shorter 30 = .ok (.iconst 0, 1) := by decide +kernel
theorem dX12_shorter_31 : decode cX12_shorter 31 = .ok (.iaload, 1) := by decide +kernel
theorem dX12_shorter_32 : decode cX12_shorter 32 = .ok (.aload_n 0, 1) := by decide +kernel
theorem dX12_shorter_33 : decode cX12_shorter 33 = .ok (.getfield 307, 3) := by decide +kernel
theorem dX12_shorter_36 : decode cX12_shorter 36 = .ok (.invokevirtual 538, 3) := by decide +kernel
theorem dX12_shorter_39 : decode cX12_shorter 39 = .ok (.aload_n 0, 1) := by decide +kernel
theorem dX12_shorter_40 : decode cX12_shorter 40 = .ok (.dup, 1) := by decide +kernel
theorem dX12_shorter_41 : decode cX12_shorter 41 = .ok (.getfield 307, 3) := by decide +kernel
theorem dX12_shorter_44 : decode cX12_shorter 44 = .ok (.iconst 1, 1) := by decide +kernel
theorem dX12_shorter_45 : decode cX12_shorter 45 = .ok (.iadd, 1) := by decide +kernel
theorem dX12_shorter_46 : decode cX12_shorter 46 = .ok (.putfield 307, 3) := by decide +kernel
theorem dX12_shorter_49 : decode cX12_shorter 49 = .ok (.aload_n 0, 1) := by decide +kernel
theorem dX12_shorter_50 : decode cX12_shorter 50 = .ok (.getfield 307, 3) := by decide +kernel
theorem dX12_shorter_53 : decode cX12_shorter 53 = .ok (.iconst 1, 1) := by decide +kernel
theorem dX12_shorter_54 : decode cX12_shorter 54 = .ok (.isub, 1) := by decide +kernel
theorem dX12_shorter_55 : decode cX12_shorter 55 = .ok (.ireturn, 1) := by decide +kernel
theorem dX12_same_0 : decode cX12_same 0 = .ok (.aload_n 0, 1) := by decide +kernel
theorem dX12_same_1 : decode cX12_same 1 = .ok (.iload_n 1, 1) := by decide +kernel
theorem dX12_same_2 : decode cX12_same 2 = .ok (.invokevirtual 337, 3) := by decide +kernel
theorem dX12_same_5 : decode cX12_same 5 = .ok (.ifCond .eq 11, 3) := by decide +kernel
theorem dX12_same_8 : decode cX12_same 8 = .ok (.aload_n 0, 1) := by decide +kernel
theorem dX12_same_9 : decode cX12_same 9 = .ok (.iload_n 2, 1) := by decide +kernel
theorem dX12_same_10 : decode cX12_same 10 = .ok (.invokevirtual 337, 3) := by decide +kernel
theorem dX12_same_13 : decode cX12_same 13 = .ok (.ifCond .ne 5, 3) := by decide +kernel
theorem dX12_same_16 : decode cX12_same 16 = .ok (.iconst (-1), 1) := by decide +kernel
theorem dX12_same_17 : decode cX12_same 17 = .ok (.ireturn, 1) := by decide +kernel
theorem dX12_same_18 : decode cX12_same 18 = .ok (.aload_n 0, 1) := by decide +kernel
theorem dX12_same_19 : decode cX12_same 19 = .ok (.iload_n 1, 1) := by decide +kernel
theorem dX12_same_20 : decode cX12_same 20 = .ok (.iconst 0, 1) := by decide +kernel
theorem dX12_same_21 : decode cX12_same 21 = .ok (.invokevirtual 535, 3) := by decide +kernel
theorem dX12_same_24 : decode cX12_same 24 = .ok (.aload_n 0, 1) := by decide +kernel
theorem dX12_same_25 : decode cX12_same 25 = .ok (.iload_n 2, 1) := by decide +kernel
theorem dX12_same_26 : decode cX12_same 26 = .ok (.iconst 1, 1) := by decide +kernel
theorem dX12_same_27 : decode cX12_same 27 = .ok (.invokevirtual 535, 3) := by decide +kernel
theorem dX12_same_30 : decode cX12_same 30 = .ok (.aload_n 0, 1) := by decide +kernel
theorem dX12_same_31 : decode cX12_same 31 = .ok (.getfield 225, 3) := by decide +kernel
theorem dX12_same_34 : decode cX12_same 34 = .ok (.bipush 81, 2) := by decide +kernel
theorem dX12_same_36 : decode cX12_same 36 = .ok (.bipush 40, 2) := by decide +kernel
theorem dX12_same_38 : decode cX12_same 38 = .ok (.iastore, 1) := by decide +kernel
theorem dX12_same_39 : decode cX12_same 39 = .ok (.iconst 0, 1) := by decide +kernel
theorem dX12_same_40 : decode cX12_same 40 = .ok (.istore_n 3, 1) := by decide +kernel
theorem dX12_same_41 : decode cX12_same 41 = .ok (.iload_n 3, 1) := by decide +kernel
theorem dX12_same_42 : decode cX12_same 42 = .ok (.iconst 2, 1) := by decide +kernel
theorem dX12_same_43 : decode cX12_same 43 = .ok (.if_icmp .ge 217, 3) := by decide +kernel
theorem dX12_same_46 : decode cX12_same 46 = .ok (.bipush 41, 2) := by decide +kernel
theorem dX12_same_48 : decode cX12_same 48 = .ok (.iload_n 3, 1) := by decide +kernel
theorem dX12_same_49 : decode cX12_same 49 = .ok (.imul, 1) := by decide +kernel
theorem dX12_same_50 : decode cX12_same 50 = .ok (.istore 4, 2) := by decide +kernel
theorem dX12_same_52 : decode cX12_same 52 = .ok (.aload_n 0, 1) := by decide +kernel
theorem dX12_same_53 : decode cX12_same 53 = .ok (.getfield 17, 3) := by decide +kernel
theorem dX12_same_56 : decode cX12_same 56 = .ok (.iload_n 3, 1) := by decide +kernel
theorem dX12_same_57 : decode cX12_same 57 = .ok (.ifCond .ne 7, 3) := by decide +kernel
theorem dX12_same_60 : decode cX12_same 60 = .ok (.iload_n 1, 1) := by decide +kernel
theorem dX12_same_61 : decode cX12_same 61 = .ok (.goto 4, 3) := by decide +kernel
theorem dX12_same_64 : decode cX12_same 64 = .ok (.iload_n 2, 1) := by decide +kernel
theorem dX12_same_65 : decode cX12_same 65 = .ok (.iaload, 1) := by decide +kernel
theorem dX12_same_66 : decode cX12_same 66 = .ok (.iconst 1, 1) := by decide +kernel
theorem dX12_same_67 : decode cX12_same 67 = .ok (.isub, 1) := by decide +kernel
theorem dX12_same_68 : decode cX12_same 68 = .ok (.istore 5, 2) := by decide +kernel
theorem dX12_same_70 : decode cX12_same 70 = .ok (.iload 5, 2) := by decide +kernel
theorem dX12_same_72 : decode cX12_same 72 = .ok (.ifCond .lt 182, 3) := by decide +kernel
theorem dX12_same_75 : decode cX12_same 75 = .ok (.iload 4, 2) := by decide +kernel
theorem dX12_same_77 : decode cX12_same 77 = .ok (.iload 5, 2) := by decide +kernel
theorem dX12_same_79 : decode cX12_same 79 = .ok (.iadd, 1) := by decide +kernel
theorem dX12_same_80 : decode cX12_same 80 = .ok (.istore 6, 2) := by decide +kernel
theorem dX12_same_82 : decode cX12_same 82 = .ok (.aload_n 0, 1) := by decide +kernel
theorem dX12_same_83 : decode cX12_same 83 = .ok (.getfield 228, 3) := by decide +kernel
theorem dX12_same_86 : decode cX12_same 86 = .ok (.iload 6, 2) := by decide +kernel
theorem dX12_same_88 : decode cX12_same 88 = .ok (.iaload, 1) := by decide +kernel
theorem dX12_same_89 : decode cX12_same 89 = .ok (.iload 6, 2) := by decide +kernel
theorem dX12_same_91 : decode cX12_same 91 = .ok (.if_icmp .eq 6, 3) := by decide +kernel
theorem dX12_same_94 : decode cX12_same 94 = .ok (.goto 154, 3) := by decide +kernel
theorem dX12_same_97 : decode cX12_same 97 = .ok (.aload_n 0, 1) := by decide +kernel
theorem dX12_same_98 : decode cX12_same 98 = .ok (.getfield 225, 3) := by decide +kernel
theorem dX12_same_101 : decode cX12_same 101 = .ok (.iload 6, 2) := by decide +kernel
theorem dX12_same_103 : decode cX12_same 103 = .ok (.iload 6, 2) := by decide +kernel
theorem dX12_same_105 : decode cX12_same 105 = .ok (.iastore, 1) := by decide +kernel
theorem dX12_same_106 : decode cX12_same 106 = .ok (.iconst 0, 1) := by decide +kernel
theorem dX12_same_107 : decode cX12_same 107 = .ok (.istore 7, 2) := by decide +kernel
theorem dX12_same_109 : decode cX12_same 109 = .ok (.iload 7, 2) := by decide +kernel
theorem dX12_same_111 : decode cX12_same 111 = .ok (.bipush 82, 2) := by decide +kernel
theorem dX12_same_113 : decode cX12_same 113 = .ok (.if_icmp .ge 135, 3) := by decide +kernel
theorem dX12_same_116 : decode cX12_same 116 = .ok (.aload_n 0, 1) := by decide +kernel
theorem dX12_same_117 : decode cX12_same 117 = .ok (.getfield 225, 3) := by decide +kernel
theorem dX12_same_120 : decode cX12_same 120 = .ok (.iload 6, 2) := by decide +kernel
theorem dX12_same_122 : decode cX12_same 122 = .ok (.iaload, 1) := by decide +kernel
theorem dX12_same_123 : decode cX12_same 123 = .ok (.iload 6, 2) := by decide +kernel
theorem dX12_same_125 : decode cX12_same 125 = .ok (.if_icmp .ne 123, 3) := by decide +kernel
theorem dX12_same_128 : decode cX12_same 128 = .ok (.iload 7, 2) := by decide +kernel
theorem dX12_same_130 : decode cX12_same 130 = .ok (.bipush 41, 2) := by decide +kernel
theorem dX12_same_132 : decode cX12_same 132 = .ok (.if_icmp .ge 34, 3) := by decide +kernel
theorem dX12_same_135 : decode cX12_same 135 = .ok (.iload 7, 2) := by decide +kernel
theorem dX12_same_137 : decode cX12_same 137 = .ok (.aload_n 0, 1) := by decide +kernel
theorem dX12_same_138 : decode cX12_same 138 = .ok (.getfield 17, 3) := by decide +kernel
theorem dX12_same_141 : decode cX12_same 141 = .ok (.iload_n 1, 1) := by decide +kernel
theorem dX12_same_142 : decode cX12_same 142 = .ok (.iaload, 1) := by decide +kernel
theorem dX12_same_143 : decode cX12_same 143 = .ok (.if_icmp .ge 19, 3) := by decide +kernel
theorem dX12_same_146 : decode cX12_same 146 = .ok (.iload_n 3, 1) := by decide +kernel
theorem dX12_same_147 : decode cX12_same 147 = .ok (.iconst 1, 1) := by decide +kernel
theorem dX12_same_148 : decode cX12_same 148 = .ok (.if_icmp .eq 10, 3) := by decide +kernel
theorem dX12_same_151 : decode cX12_same 151 = .ok (.iload 7, 2) := by decide +kernel
theorem dX12_same_153 : decode cX12_same 153 = .ok (.iload 5, 2) := by decide +kernel
theorem dX12_same_155 : decode cX12_same 155 = .ok (.if_icmp .le 7, 3) := by decide +kernel
theorem dX12_same_158 : decode cX12_same 158 = .ok (.iconst 1, 1) := by decide +kernel
theorem dX12_same_159 : decode cX12_same 159 = .ok (.goto 38, 3) := by decide +kernel
theorem dX12_same_162 : decode cX12_same 162 = .ok (.iconst 0, 1) := by decide +kernel
theorem dX12_same_163 : decode cX12_same 163 = .ok (.goto 34, 3) := by decide +kernel
theorem dX12_same_166 : decode cX12_same 166 = .ok (.iload_n 3, 1) := by decide +kernel
theorem dX12_same_167 : decode cX12_same 167 = .ok (.iconst 1, 1) := by decide +kernel
theorem dX12_same_168 : decode cX12_same 168 = .ok (.if_icmp .ne 28, 3) := by decide +kernel
theorem dX12_same_171 : decode cX12_same 171 = .ok (.iload 7, 2) := by decide +kernel
theorem dX12_same_173 : decode cX12_same 173 = .ok (.bipush 41, 2) := by decide +kernel
theorem dX12_same_175 : decode cX12_same 175 = .ok (.isub, 1) := by decide +kernel
theorem dX12_same_176 : decode cX12_same 176 = .ok (.aload_n 0, 1) := by decide +kernel
theorem dX12_same_177 : decode cX12_same 177 = .ok (.getfield 17, 3) := by decide +kernel
theorem dX12_same_180 : decode cX12_same 180 = .ok (.iload_n 2, 1) := by decide +kernel
theorem dX12_same_181 : decode cX12_same 181 = .ok (.iaload, 1) := by decide +kernel
theorem dX12_same_182 : decode cX12_same 182 = .ok (.if_icmp .ge 14, 3) := by decide +kernel
theorem dX12_same_185 : decode cX12_same 185 = .ok (.iload 7, 2) := by decide +kernel
theorem dX12_same_187 : decode cX12_same 187 = .ok (.iload 6, 2) := by decide +kernel
theorem dX12_same_189 : decode cX12_same 189 = .ok (.if_icmp .le 7, 3) := by decide +kernel
theorem dX12_same_192 : decode cX12_same 192 = .ok (.iconst 1, 1) := by decide +kernel
theorem dX12_same_193 : decode cX12_same 193 = .ok (.goto 4, 3) := by decide +kernel
theorem dX12_same_196 : decode cX12_same 196 = .ok (.iconst 0, 1) := by decide +kernel
theorem dX12_same_197 : decode cX12_same 197 = .ok (.istore 8, 2) := by decide +kernel
theorem dX12_same_199 : decode cX12_same 199 = .ok (.iload 8, 2) := by decide +kernel
theorem dX12_same_201 : decode cX12_same 201 = .ok (.ifCond .eq 41, 3) := by decide +kernel
theorem dX12_same_204 : decode cX12_same 204 = .ok (.aload_n 0, 1) := by decide +kernel
theorem dX12_same_205 : decode cX12_same 205 = .ok (.getfield 228, 3) := by decide +kernel
theorem dX12_same_208 : decode cX12_same 208 = .ok (.iload 7, 2) := by decide +kernel
theorem dX12_same_210 : decode cX12_same 210 = .ok (.iaload, 1) := by decide +kernel
theorem dX12_same_211 : decode cX12_same 211 = .ok (.iload 7, 2) := by decide +kernel
theorem dX12_same_213 : decode cX12_same 213 = .ok (.if_icmp .ne 29, 3) := by decide +kernel
theorem dX12_same_216 : decode cX12_same 216 = .ok (.aload_n 0, 1) := by decide +kernel
theorem dX12_same_217 : decode cX12_same 217 = .ok (.iload 6, 2) := by decide +kernel
theorem dX12_same_219 : decode cX12_same 219 = .ok (.iload 7, 2) := by decide +kernel
theorem dX12_same_221 : decode cX12_same 221 = .ok (.iconst 1, 1) := by decide +kernel
theorem dX12_same_222 : decode cX12_same 222 = .ok (.invokevirtual 520, 3) := by decide +kernel
theorem dX12_same_225 : decode cX12_same 225 = .ok (.ifCond .eq 17, 3) := by decide +kernel
theorem dX12_same_228 : decode cX12_same 228 = .ok (.aload_n 0, 1) := by decide +kernel
theorem dX12_same_229 : decode cX12_same 229 = .ok (.getfield 225, 3) := by decide +kernel
theorem dX12_same_232 : decode cX12_same 232 = .ok (.iload 6, 2) := by decide +kernel
theorem dX12_same_234 : decode cX12_same 234 = .ok (.aload_n 0, 1) := by decide +kernel
theorem dX12_same_235 : decode cX12_same 235 = .ok (.getfield 225, 3) := by decide +kernel
theorem dX12_same_238 : decode cX12_same 238 = .ok (.iload 7, 2) := by decide +kernel
theorem dX12_same_240 : decode cX12_same 240 = .ok (.iaload, 1) := by decide +kernel
theorem dX12_same_241 : decode cX12_same 241 = .ok (.iastore, 1) := by decide +kernel
theorem dX12_same_242 : decode cX12_same 242 = .ok (.iinc 7 1, 3) := by decide +kernel
theorem dX12_same_245 : decode cX12_same 245 = .ok (.goto (-136), 3) := by decide +kernel
theorem dX12_same_248 : decode cX12_same 248 = .ok (.iinc 5 (-1), 3) := by decide +kernel
theorem dX12_same_251 : decode cX12_same 251 = .ok (.goto (-181), 3) := by decide +kernel
theorem dX12_same_254 : decode cX12_same 254 = .ok (.iinc 3 1, 3) := by decide +kernel
theorem dX12_same_257 : decode cX12_same 257 = .ok (.goto (-216), 3) := by decide +kernel
theorem dX12_same_260 : decode cX12_same 260 = .ok (.aload_n 0, 1) := by decide +kernel
theorem dX12_same_261 : decode cX12_same 261 = .ok (.getfield 225, 3) := by decide +kernel
theorem dX12_same_264 : decode cX12_same 264 = .ok (.aload_n 0, 1) := by decide +kernel
theorem dX12_same_265 : decode cX12_same 265 = .ok (.getfield 228, 3) := by decide +kernel
theorem dX12_same_268 : decode cX12_same 268 = .ok (.iconst 0, 1) := by decide +kernel
theorem dX12_same_269 : decode cX12_same 269 = .ok (.iaload, 1) := by decide +kernel
theorem dX12_same_270 : decode cX12_same 270 = .ok (.iaload, 1) := by decide +kernel
theorem dX12_same_271 : decode cX12_same 271 = .ok (.aload_n 0, 1) := by decide +kernel
theorem dX12_same_272 : decode cX12_same 272 = .ok (.getfield 225, 3) := by decide +kernel
theorem dX12_same_275 : decode cX12_same 275 = .ok (.aload_n 0, 1) := by decide +kernel
theorem dX12_same_276 : decode cX12_same 276 = .ok (.getfield 228, 3) := by decide +kernel
theorem dX12_same_279 : decode cX12_same 279 = .ok (.bipush 41, 2) := by decide +kernel
theorem dX12_same_281 : decode cX12_same 281 = .ok (.iaload, 1) := by decide +kernel
theorem dX12_same_282 : decode cX12_same 282 = .ok (.iaload, 1) := by decide +kernel
theorem dX12_same_283 : decode cX12_same 283 = .ok (.if_icmp .ne 7, 3) := by decide +kernel
theorem dX12_same_286 : decode cX12_same 286 = .ok (.iconst 1, 1) := by decide +kernel
theorem dX12_same_287 : decode cX12_same 287 = .ok (.goto 4, 3) := by decide +kernel
theorem dX12_same_290 : decode cX12_same 290 = .ok (.iconst 0, 1) := by decide +kernel
theorem dX12_same_291 : decode cX12_same 291 = .ok (.ireturn, 1) := by decide +kernel
theorem dX12_tell_0 : decode cX12_tell 0 = .ok (.aload_n 0, 1) := by decide +kernel
theorem dX12_tell_1 : decode cX12_tell 1 = .ok (.iload_n 1, 1) := by decide +kernel
theorem dX12_tell_2 : decode cX12_tell 2 = .ok (.invokevirtual 337, 3) := by decide +kernel
theorem dX12_tell_5 : decode cX12_tell 5 = .ok (.ifCond .ne 5, 3) := by decide +kernel
theorem dX12_tell_8 : decode cX12_tell 8 = .ok (.iconst (-1), 1) := by decide +kernel
theorem dX12_tell_9 : decode cX12_tell 9 = .ok (.ireturn, 1) := by decide +kernel
theorem dX12_tell_10 : decode cX12_tell 10 = .ok (.aload_n 0, 1) := by decide +kernel
theorem dX12_tell_11 : decode cX12_tell 11 = .ok (.iconst 0, 1) := by decide +kernel
theorem dX12_tell_12 : decode cX12_tell 12 = .ok (.putfield 541, 3) := by decide +kernel
theorem dX12_tell_15 : decode cX12_tell 15 = .ok (.aload_n 0, 1) := by decide +kernel
theorem dX12_tell_16 : decode cX12_tell 16 = .ok (.iconst 0, 1) := by decide +kernel
theorem dX12_tell_17 : decode cX12_tell 17 = .ok (.putfield 544, 3) := by decide +kernel
theorem dX12_tell_20 : decode cX12_tell 20 = .ok (.aload_n 0, 1) := by decide +kernel
theorem dX12_tell_21 : decode cX12_tell 21 = .ok (.iconst 0, 1) := by decide +kernel
theorem dX12_tell_22 : decode cX12_tell 22 = .ok (.putfield 524, 3) := by decide +kernel
theorem dX12_tell_25 : decode cX12_tell 25 = .ok (.aload_n 0, 1) := by decide +kernel
theorem dX12_tell_26 : decode cX12_tell 26 = .ok (.bipush 40, 2) := by decide +kernel
theorem dX12_tell_28 : decode cX12_tell 28 = .ok (.iload_n 1, 1) := by decide +kernel
theorem dX12_tell_29 : decode cX12_tell 29 = .ok (.imul, 1) := by decide +kernel
theorem dX12_tell_30 : decode cX12_tell 30 = .ok (.iconst (-1), 1) := by decide +kernel
theorem dX12_tell_31 : decode cX12_tell 31 = .ok (.iconst 0, 1) := by decide +kernel
theorem dX12_tell_32 : decode cX12_tell 32 = .ok (.invokevirtual 527, 3) := by decide +kernel
theorem dX12_tell_35 : decode cX12_tell 35 = .ok (.aload_n 0, 1) := by decide +kernel
theorem dX12_tell_36 : decode cX12_tell 36 = .ok (.getfield 524, 3) := by decide +kernel
theorem dX12_tell_39 : decode cX12_tell 39 = .ok (.ifCond .le 161, 3) := by decide +kernel
theorem dX12_tell_42 : decode cX12_tell 42 = .ok (.aload_n 0, 1) := by decide +kernel
theorem dX12_tell_43 : decode cX12_tell 43 = .ok (.dup, 1) := by decide +kernel
theorem dX12_tell_44 : decode cX12_tell 44 = .ok (.getfield 524, 3) := by decide +kernel
theorem dX12_tell_47 : decode cX12_tell 47 = .ok (.iconst 1, 1) := by decide +kernel
theorem dX12_tell_48 : decode cX12_tell 48 = .ok (.isub, 1) := by decide +kernel
theorem dX12_tell_49 : decode cX12_tell 49 = .ok (.putfield 524, 3) := by decide +kernel
theorem dX12_tell_52 : decode cX12_tell 52 = .ok (.aload_n 0, 1) := by decide +kernel
theorem dX12_tell_53 : decode cX12_tell 53 = .ok (.getfield 231, 3) := by decide +kernel
theorem dX12_tell_56 : decode cX12_tell 56 = .ok (.aload_n 0, 1) := by decide +kernel
theorem dX12_tell_57 : decode cX12_tell 57 = .ok (.getfield 524, 3) := by decide +kernel
theorem dX12_tell_60 : decode cX12_tell 60 = .ok (.iaload, 1) := by decide +kernel
theorem dX12_tell_61 : decode cX12_tell 61 = .ok (.istore_n 2, 1) := by decide +kernel
theorem dX12_tell_62 : decode cX12_tell 62 = .ok (.iload_n 2, 1) := by decide +kernel
theorem dX12_tell_63 : decode cX12_tell 63 = .ok (.ifCond .ge 22, 3) := by decide +kernel
theorem dX12_tell_66 : decode cX12_tell 66 = .ok (.aload_n 0, 1) := by decide +kernel
theorem dX12_tell_67 : decode cX12_tell 67 = .ok (.iload_n 2, 1) := by decide +kernel
theorem dX12_tell_68 : decode cX12_tell 68 = .ok (.iconst (-1), 1) := by decide +kernel
theorem dX12_tell_69 : decode cX12_tell 69 = .ok (.if_icmp .ne 8, 3) := by decide +kernel
theorem dX12_tell_72 : decode cX12_tell 72 = .ok (.bipush 44, 2) := by decide +kernel
theorem dX12_tell_74 : decode cX12_tell 74 = .ok (.goto 5, 3) := by decide +kernel
theorem dX12_tell_77 : decode cX12_tell 77 = .ok (.bipush 41, 2) := by decide +kernel
theorem dX12_tell_79 : decode cX12_tell 79 = .ok (.invokevirtual 547, 3) := by decide +kernel
theorem dX12_tell_82 : decode cX12_tell 82 = .ok (.goto (-47), 3) := by decide +kernel
theorem dX12_tell_85 : decode cX12_tell 85 = .ok (.aload_n 0, 1) := by decide +kernel
theorem dX12_tell_86 : decode cX12_tell 86 = .ok (.iload_n 2, 1) := by decide +kernel
theorem dX12_tell_87 : decode cX12_tell 87 = .ok (.invokevirtual 561, 3) := by decide +kernel
theorem dX12_tell_90 : decode cX12_tell 90 = .ok (.aload_n 0, 1) := by decide +kernel
theorem dX12_tell_91 : decode cX12_tell 91 = .ok (.getfield 20, 3) := by decide +kernel
theorem dX12_tell_94 : decode cX12_tell 94 = .ok (.iload_n 2, 1) := by decide +kernel
theorem dX12_tell_95 : decode cX12_tell 95 = .ok (.iaload, 1) := by decide +kernel
theorem dX12_tell_96 : decode cX12_tell 96 = .ok (.ifCond .eq (-61), 3) := by decide +kernel
theorem dX12_tell_99 : decode cX12_tell 99 = .ok (.aload_n 0, 1) := by decide +kernel
theorem dX12_tell_100 : decode cX12_tell 100 = .ok (.getfield 20, 3) := by decide +kernel
theorem dX12_tell_103 : decode cX12_tell 103 = .ok (.iload_n 2, 1) := by decide +kernel
theorem dX12_tell_104 : decode cX12_tell 104 = .ok (.iaload, 1) := by decide +kernel
theorem dX12_tell_105 : decode cX12_tell 105 = .ok (.iconst 1, 1) := by decide +kernel
theorem dX12_tell_106 : decode cX12_tell 106 = .ok (.if_icmp .ne 6, 3) := by decide +kernel
theorem dX12_tell_109 : decode cX12_tell 109 = .ok (.goto (-74), 3) := by decide +kernel
theorem dX12_tell_112 : decode cX12_tell 112 = .ok (.aload_n 0, 1) := by decide +kernel
theorem dX12_tell_113 : decode cX12_tell 113 = .ok (.getfield 20, 3) := by decide +kernel
theorem dX12_tell_116 : decode cX12_tell 116 = .ok (.iload_n 2, 1) := by decide +kernel
theorem dX12_tell_117 : decode cX12_tell 117 = .ok (.iaload, 1) := by decide +kernel
theorem dX12_tell_118 : decode cX12_tell 118 = .ok (.iconst 3, 1) := by decide +kernel
theorem dX12_tell_119 : decode cX12_tell 119 = .ok (.if_icmp .eq 23, 3) := by decide +kernel
theorem dX12_tell_122 : decode cX12_tell 122 = .ok (.aload_n 0, 1) := by decide +kernel
theorem dX12_tell_123 : decode cX12_tell 123 = .ok (.getfield 20, 3) := by decide +kernel
theorem dX12_tell_126 : decode cX12_tell 126 = .ok (.iload_n 2, 1) := by decide +kernel
theorem dX12_tell_127 : decode cX12_tell 127 = .ok (.iaload, 1) := by decide +kernel
theorem dX12_tell_128 : decode cX12_tell 128 = .ok (.iconst 4, 1) := by decide +kernel
theorem dX12_tell_129 : decode cX12_tell 129 = .ok (.if_icmp .eq 13, 3) := by decide +kernel
theorem dX12_tell_132 : decode cX12_tell 132 = .ok (.aload_n 0, 1) := by decide +kernel
theorem dX12_tell_133 : decode cX12_tell 133 = .ok (.getfield 20, 3) := by decide +kernel
theorem dX12_tell_136 : decode cX12_tell 136 = .ok (.iload_n 2, 1) := by decide +kernel
theorem dX12_tell_137 : decode cX12_tell 137 = .ok (.iaload, 1) := by decide +kernel
theorem dX12_tell_138 : decode cX12_tell 138 = .ok (.iconst 5, 1) := by decide +kernel
theorem dX12_tell_139 : decode cX12_tell 139 = .ok (.if_icmp .ne 7, 3) := by decide +kernel
theorem dX12_tell_142 : decode cX12_tell 142 = .ok (.iconst 1, 1) := by decide +kernel
theorem dX12_tell_143 : decode cX12_tell 143 = .ok (.goto 4, 3) := by decide +kernel
theorem dX12_tell_146 : decode cX12_tell 146 = .ok (.iconst 0, 1) := by decide +kernel
theorem dX12_tell_147 : decode cX12_tell 147 = .ok (.istore_n 3, 1) := by decide +kernel
theorem dX12_tell_148 : decode cX12_tell 148 = .ok (.iload_n 3, 1) := by decide +kernel
theorem dX12_tell_149 : decode cX12_tell 149 = .ok (.ifCond .eq 36, 3) := by decide +kernel
theorem dX12_tell_152 : decode cX12_tell 152 = .ok (.aload_n 0, 1) := by decide +kernel
theorem dX12_tell_153 : decode cX12_tell 153 = .ok (.bipush 40, 2) := by decide +kernel
theorem dX12_tell_155 : decode cX12_tell 155 = .ok (.invokevirtual 547, 3) := by decide +kernel
theorem dX12_tell_158 : decode cX12_tell 158 = .ok (.aload_n 0, 1) := by decide +kernel
theorem dX12_tell_159 : decode cX12_tell 159 = .ok (.bipush (-2), 2) := by decide +kernel
theorem dX12_tell_161 : decode cX12_tell 161 = .ok (.iconst (-1), 1) := by decide +kernel
theorem dX12_tell_162 : decode cX12_tell 162 = .ok (.iconst 0, 1) := by decide +kernel
theorem dX12_tell_163 : decode cX12_tell 163 = .ok (.invokevirtual 527, 3) := by decide +kernel
theorem dX12_tell_166 : decode cX12_tell 166 = .ok (.aload_n 0, 1) := by decide +kernel
theorem dX12_tell_167 : decode cX12_tell 167 = .ok (.aload_n 0, 1) := by decide +kernel
theorem dX12_tell_168 : decode cX12_tell 168 = .ok (.getfield 35, 3) := by decide +kernel
theorem dX12_tell_171 : decode cX12_tell 171 = .ok (.iload_n 2, 1) := by decide +kernel
theorem dX12_tell_172 : decode cX12_tell 172 = .ok (.iaload, 1) := by decide +kernel
theorem dX12_tell_173 : decode cX12_tell 173 = .ok (.iconst (-1), 1) := by decide +kernel
theorem dX12_tell_174 : decode cX12_tell 174 = .ok (.iconst 0, 1) := by decide +kernel
theorem dX12_tell_175 : decode cX12_tell 175 = .ok (.invokevirtual 527, 3) := by decide +kernel
theorem dX12_tell_178 : decode cX12_tell 178 = .ok (.aload_n 0, 1) := by decide +kernel
theorem dX12_tell_179 : decode cX12_tell 179 = .ok (.iconst (-1), 1) := by decide +kernel
theorem dX12_tell_180 : decode cX12_tell 180 = .ok (.iconst (-1), 1) := by decide +kernel
theorem dX12_tell_181 : decode cX12_tell 181 = .ok (.iconst 0, 1) := by decide +kernel
theorem dX12_tell_182 : decode cX12_tell 182 = .ok (.invokevirtual 527, 3) := by decide +kernel
theorem dX12_tell_185 : decode cX12_tell 185 = .ok (.aload_n 0, 1) := by decide +kernel
theorem dX12_tell_186 : decode cX12_tell 186 = .ok (.aload_n 0, 1) := by decide +kernel
theorem dX12_tell_187 : decode cX12_tell 187 = .ok (.getfield 32, 3) := by decide +kernel
theorem dX12_tell_190 : decode cX12_tell 190 = .ok (.iload_n 2, 1) := by decide +kernel
theorem dX12_tell_191 : decode cX12_tell 191 = .ok (.iaload, 1) := by decide +kernel
theorem dX12_tell_192 : decode cX12_tell 192 = .ok (.iconst (-1), 1) := by decide +kernel
theorem dX12_tell_193 : decode cX12_tell 193 = .ok (.iconst 0, 1) := by decide +kernel
theorem dX12_tell_194 : decode cX12_tell 194 = .ok (.invokevirtual 527, 3) := by decide +kernel
theorem dX12_tell_197 : decode cX12_tell 197 = .ok (.goto (-162), 3) := by decide +kernel
theorem dX12_tell_200 : decode cX12_tell 200 = .ok (.aload_n 0, 1) := by decide +kernel
theorem dX12_tell_201 : decode cX12_tell 201 = .ok (.getfield 541, 3) := by decide +kernel
theorem dX12_tell_204 : decode cX12_tell 204 = .ok (.ireturn, 1) := by decide +kernel
theorem dX12_octet_0 : decode cX12_octet 0 = .ok (.iload_n 1, 1) := by decide +kernel
theorem dX12_octet_1 : decode cX12_octet 1 = .ok (.i2l, 1) := by decide +kernel
theorem dX12_octet_2 : decode cX12_octet 2 = .ok (.lconst 0, 1) := by decide +kernel
theorem dX12_octet_3 : decode cX12_octet 3 = .ok (.aload_n 0, 1) := by decide +kernel
theorem dX12_octet_4 : decode cX12_octet 4 = .ok (.getfield 541, 3) := by decide +kernel
theorem dX12_octet_7 : decode cX12_octet 7 = .ok (.iconst 1, 1) := by decide +kernel
theorem dX12_octet_8 : decode cX12_octet 8 = .ok (.isub, 1) := by decide +kernel
theorem dX12_octet_9 : decode cX12_octet 9 = .ok (.i2l, 1) := by decide +kernel
theorem dX12_octet_10 : decode cX12_octet 10 = .ok (.invokestatic 245, 3) := by decide +kernel
theorem dX12_octet_13 : decode cX12_octet 13 = .ok (.ifCond .eq 12, 3) := by decide +kernel
theorem dX12_octet_16 : decode cX12_octet 16 = .ok (.aload_n 0, 1) := by decide +kernel
theorem dX12_octet_17 : decode cX12_octet 17 = .ok (.getfield 240, 3) := by decide +kernel
theorem dX12_octet_20 : decode cX12_octet 20 = .ok (.iload_n 1, 1) := by decide +kernel
theorem dX12_octet_21 : decode cX12_octet 21 = .ok (.baload, 1) := by decide +kernel
theorem dX12_octet_22 : decode cX12_octet 22 = .ok (.goto 4, 3) := by decide +kernel
theorem dX12_octet_25 : decode cX12_octet 25 = .ok (.iconst (-1), 1) := by decide +kernel
theorem dX12_octet_26 : decode cX12_octet 26 = .ok (.ireturn, 1) := by decide +kernel
theorem dX12_isHouse_0 : decode cX12_isHouse 0 = .ok (.iload_n 1, 1) := by decide +kernel
theorem dX12_isHouse_1 : decode cX12_isHouse 1 = .ok (.ifCond .lt 13, 3) := by decide +kernel
theorem dX12_isHouse_4 : decode cX12_isHouse 4 = .ok (.iload_n 1, 1) := by decide +kernel
theorem dX12_isHouse_5 : decode cX12_isHouse 5 = .ok (.bipush 8, 2) := by decide +kernel
theorem dX12_isHouse_7 : decode cX12_isHouse 7 = .ok (.if_icmp .ge 7, 3) := by decide +kernel
theorem dX12_isHouse_10 : decode cX12_isHouse 10 = .ok (.iconst 1, 1) := by decide +kernel
theorem dX12_isHouse_11 : decode cX12_isHouse 11 = .ok (.goto 4, 3) := by decide +kernel
theorem dX12_isHouse_14 : decode cX12_isHouse 14 = .ok (.iconst 0, 1) := by decide +kernel
theorem dX12_isHouse_15 : decode cX12_isHouse 15 = .ok (.ireturn, 1) := by decide +kernel
theorem dX12_begin_0 : decode cX12_begin 0 = .ok (.aload_n 0, 1) := by decide +kernel
theorem dX12_begin_1 : decode cX12_begin 1 = .ok (.getfield 394, 3) := by decide +kernel
theorem dX12_begin_4 : decode cX12_begin 4 = .ok (.bipush 40, 2) := by decide +kernel
theorem dX12_begin_6 : decode cX12_begin 6 = .ok (.if_icmp .eq 32, 3) := by decide +kernel
theorem dX12_begin_9 : decode cX12_begin 9 = .ok (.aload_n 0, 1) := by decide +kernel
theorem dX12_begin_10 : decode cX12_begin 10 = .ok (.iload_n 1, 1) := by decide +kernel
theorem dX12_begin_11 : decode cX12_begin 11 = .ok (.invokevirtual 337, 3) := by decide +kernel
theorem dX12_begin_14 : decode cX12_begin 14 = .ok (.ifCond .eq 24, 3) := by decide +kernel
theorem dX12_begin_17 : decode cX12_begin 17 = .ok (.aload_n 0, 1) := by decide +kernel
theorem dX12_begin_18 : decode cX12_begin 18 = .ok (.iload_n 2, 1) := by decide +kernel
theorem dX12_begin_19 : decode cX12_begin 19 = .ok (.invokevirtual 397, 3) := by decide +kernel
theorem dX12_begin_22 : decode cX12_begin 22 = .ok (.ifCond .eq 16, 3) := by decide +kernel
theorem dX12_begin_25 : decode cX12_begin 25 = .ok (.aload_n 0, 1) := by decide +kernel
theorem dX12_begin_26 : decode cX12_begin 26 = .ok (.iload_n 3, 1) := by decide +kernel
theorem dX12_begin_27 : decode cX12_begin 27 = .ok (.invokevirtual 397, 3) := by decide +kernel
theorem dX12_begin_30 : decode cX12_begin 30 = .ok (.ifCond .eq 8, 3) := by decide +kernel
theorem dX12_begin_33 : decode cX12_begin 33 = .ok (.iload_n 2, 1) := by decide +kernel
theorem dX12_begin_34 : decode cX12_begin 34 = .ok (.iload_n 3, 1) := by decide +kernel
theorem dX12_begin_35 : decode cX12_begin 35 = .ok (.if_icmp .ne 5, 3) := by decide +kernel
theorem dX12_begin_38 : decode cX12_begin 38 = .ok (.iconst (-1), 1) := by decide +kernel
theorem dX12_begin_39 : decode cX12_begin 39 = .ok (.ireturn, 1) := by decide +kernel
theorem dX12_begin_40 : decode cX12_begin 40 = .ok (.aload_n 0, 1) := by decide +kernel
theorem dX12_begin_41 : decode cX12_begin 41 = .ok (.getfield 97, 3) := by decide +kernel
theorem dX12_begin_44 : decode cX12_begin 44 = .ok (.aload_n 0, 1) := by decide +kernel
theorem dX12_begin_45 : decode cX12_begin 45 = .ok (.getfield 394, 3) := by decide +kernel
theorem dX12_begin_48 : decode cX12_begin 48 = .ok (.iload_n 1, 1) := by decide +kernel
theorem dX12_begin_49 : decode cX12_begin 49 = .ok (.iastore, 1) := by decide +kernel
theorem dX12_begin_50 : decode cX12_begin 50 = .ok (.aload_n 0, 1) := by decide +kernel
theorem dX12_begin_51 : decode cX12_begin 51 = .ok (.getfield 100, 3) := by decide +kernel
theorem dX12_begin_54 : decode cX12_begin 54 = .ok (.aload_n 0, 1) := by decide +kernel
theorem dX12_begin_55 : decode cX12_begin 55 = .ok (.getfield 394, 3) := by decide +kernel
theorem dX12_begin_58 : decode cX12_begin 58 = .ok (.iload_n 2, 1) := by decide +kernel
theorem dX12_begin_59 : decode cX12_begin 59 = .ok (.iastore, 1) := by decide +kernel
theorem dX12_begin_60 : decode cX12_begin 60 = .ok (.aload_n 0, 1) := by decide +kernel
theorem dX12_begin_61 : decode cX12_begin 61 = .ok (.getfield 103, 3) := by decide +kernel
theorem dX12_begin_64 : decode cX12_begin 64 = .ok (.aload_n 0, 1) := by decide +kernel
theorem dX12_begin_65 : decode cX12_begin 65 = .ok (.getfield 394, 3) := by decide +kernel
theorem dX12_begin_68 : decode cX12_begin 68 = .ok (.iload_n 3, 1) := by decide +kernel
theorem dX12_begin_69 : decode cX12_begin 69 = .ok (.iastore, 1) := by decide +kernel
theorem dX12_begin_70 : decode cX12_begin 70 = .ok (.aload_n 0, 1) := by decide +kernel
theorem dX12_begin_71 : decode cX12_begin 71 = .ok (.dup, 1) := by decide +kernel
theorem dX12_begin_72 : decode cX12_begin 72 = .ok (.getfield 394, 3) := by decide +kernel
theorem dX12_begin_75 : decode cX12_begin 75 = .ok (.iconst 1, 1) := by decide +kernel
theorem dX12_begin_76 : decode cX12_begin 76 = .ok (.iadd, 1) := by decide +kernel
theorem dX12_begin_77 : decode cX12_begin 77 = .ok (.putfield 394, 3) := by decide +kernel
theorem dX12_begin_80 : decode cX12_begin 80 = .ok (.aload_n 0, 1) := by decide +kernel
theorem dX12_begin_81 : decode cX12_begin 81 = .ok (.invokevirtual 400, 3) := by decide +kernel
theorem dX12_begin_84 : decode cX12_begin 84 = .ok (.aload_n 0, 1) := by decide +kernel
theorem dX12_begin_85 : decode cX12_begin 85 = .ok (.aload_n 0, 1) := by decide +kernel
theorem dX12_begin_86 : decode cX12_begin 86 = .ok (.getfield 394, 3) := by decide +kernel
theorem dX12_begin_89 : decode cX12_begin 89 = .ok (.iconst 1, 1) := by decide +kernel
theorem dX12_begin_90 : decode cX12_begin 90 = .ok (.isub, 1) := by decide +kernel
theorem dX12_begin_91 : decode cX12_begin 91 = .ok (.bipush 40, 2) := by decide +kernel
theorem dX12_begin_93 : decode cX12_begin 93 = .ok (.iload_n 1, 1) := by decide +kernel
theorem dX12_begin_94 : decode cX12_begin 94 = .ok (.imul, 1) := by decide +kernel
theorem dX12_begin_95 : decode cX12_begin 95 = .ok (.lconst 1, 1) := by decide +kernel
theorem dX12_begin_96 : decode cX12_begin 96 = .ok (.invokevirtual 403, 3) := by decide +kernel
theorem dX12_begin_99 : decode cX12_begin 99 = .ok (.aload_n 0, 1) := by decide +kernel
theorem dX12_begin_100 : decode cX12_begin 100 = .ok (.getfield 394, 3) := by decide +kernel
theorem dX12_begin_103 : decode cX12_begin 103 = .ok (.iconst 1, 1) := by decide +kernel
theorem dX12_begin_104 : decode cX12_begin 104 = .ok (.isub, 1) := by decide +kernel
theorem dX12_begin_105 : decode cX12_begin 105 = .ok (.ireturn, 1) := by decide +kernel
theorem dX12_day_0 : decode cX12_day 0 = .ok (.aload_n 0, 1) := by decide +kernel
theorem dX12_day_1 : decode cX12_day 1 = .ok (.getfield 249, 3) := by decide +kernel
theorem dX12_day_4 : decode cX12_day 4 = .ok (.sipush 399, 3) := by decide +kernel
theorem dX12_day_7 : decode cX12_day 7 = .ok (.if_icmp .ne 5, 3) := by decide +kernel
theorem dX12_day_10 : decode cX12_day 10 = .ok (.iconst (-1), 1) := by decide +kernel
theorem dX12_day_11 : decode cX12_day 11 = .ok (.ireturn, 1) := by decide +kernel
theorem dX12_day_12 : decode cX12_day 12 = .ok (.aload_n 0, 1) := by decide +kernel
theorem dX12_day_13 : decode cX12_day 13 = .ok (.dup, 1) := by decide +kernel
theorem dX12_day_14 : decode cX12_day 14 = .ok (.getfield 249, 3) := by decide +kernel
theorem dX12_day_17 : decode cX12_day 17 = .ok (.iconst 1, 1) := by decide +kernel
theorem dX12_day_18 : decode cX12_day 18 = .ok (.iadd, 1) := by decide +kernel
theorem dX12_day_19 : decode cX12_day 19 = .ok (.putfield 249, 3) := by decide +kernel
theorem dX12_day_22 : decode cX12_day 22 = .ok (.aload_n 0, 1) := by decide +kernel
theorem dX12_day_23 : decode cX12_day 23 = .ok (.invokevirtual 400, 3) := by decide +kernel
theorem dX12_day_26 : decode cX12_day 26 = .ok (.aload_n 0, 1) := by decide +kernel
theorem dX12_day_27 : decode cX12_day 27 = .ok (.getfield 364, 3) := by decide +kernel
theorem dX12_day_30 : decode cX12_day 30 = .ok (.istore_n 1, 1) := by decide +kernel
theorem dX12_day_31 : decode cX12_day 31 = .ok (.iconst 0, 1) := by decide +kernel
theorem dX12_day_32 : decode cX12_day 32 = .ok (.istore_n 2, 1) := by decide +kernel
theorem dX12_day_33 : decode cX12_day 33 = .ok (.iload_n 2, 1) := by decide +kernel
theorem dX12_day_34 : decode cX12_day 34 = .ok (.aload_n 0, 1) := by decide +kernel
theorem dX12_day_35 : decode cX12_day 35 = .ok (.getfield 394, 3) := by decide +kernel
theorem dX12_day_38 : decode cX12_day 38 = .ok (.if_icmp .ge 144, 3) := by decide +kernel
theorem dX12_day_41 : decode cX12_day 41 = .ok (.iconst 0, 1) := by decide +kernel
theorem dX12_day_42 : decode cX12_day 42 = .ok (.istore_n 3, 1) := by decide +kernel
theorem dX12_day_43 : decode cX12_day 43 = .ok (.aload_n 0, 1) := by decide +kernel
theorem dX12_day_44 : decode cX12_day 44 = .ok (.getfield 109, 3) := by decide +kernel
theorem dX12_day_47 : decode cX12_day 47 = .ok (.iload_n 2, 1) := by decide +kernel
theorem dX12_day_48 : decode cX12_day 48 = .ok (.iaload, 1) := by decide +kernel
theorem dX12_day_49 : decode cX12_day 49 = .ok (.istore 4, 2) := by decide +kernel
theorem dX12_day_51 : decode cX12_day 51 = .ok (.iload 4, 2) := by decide +kernel
theorem dX12_day_53 : decode cX12_day 53 = .ok (.ifCond .le 123, 3) := by decide +kernel
theorem dX12_day_56 : decode cX12_day 56 = .ok (.aload_n 0, 1) := by decide +kernel
theorem dX12_day_57 : decode cX12_day 57 = .ok (.getfield 112, 3) := by decide +kernel
theorem dX12_day_60 : decode cX12_day 60 = .ok (.bipush 40, 2) := by decide +kernel
theorem dX12_day_62 : decode cX12_day 62 = .ok (.iload_n 2, 1) := by decide +kernel
theorem dX12_day_63 : decode cX12_day 63 = .ok (.imul, 1) := by decide +kernel
theorem dX12_day_64 : decode cX12_day 64 = .ok (.iload_n 3, 1) := by decide +kernel
theorem dX12_day_65 : decode cX12_day 65 = .ok (.iadd, 1) := by decide +kernel
theorem dX12_day_66 : decode cX12_day 66 = .ok (.iaload, 1) := by decide +kernel
theorem dX12_day_67 : decode cX12_day 67 = .ok (.istore 5, 2) := by decide +kernel
theorem dX12_day_69 : decode cX12_day 69 = .ok (.aload_n 0, 1) := by decide +kernel
theorem dX12_day_70 : decode cX12_day 70 = .ok (.getfield 115, 3) := by decide +kernel
theorem dX12_day_73 : decode cX12_day 73 = .ok (.bipush 40, 2) := by decide +kernel
theorem dX12_day_75 : decode cX12_day 75 = .ok (.iload_n 2, 1) := by decide +kernel
theorem dX12_day_76 : decode cX12_day 76 = .ok (.imul, 1) := by decide +kernel
theorem dX12_day_77 : decode cX12_day 77 = .ok (.iload_n 3, 1) := by decide +kernel
theorem dX12_day_78 : decode cX12_day 78 = .ok (.iadd, 1) := by decide +kernel
theorem dX12_day_79 : decode cX12_day 79 = .ok (.laload, 1) := by decide +kernel
theorem dX12_day_80 : decode cX12_day 80 = .ok (.lstore 6, 2) := by decide +kernel
theorem dX12_day_82 : decode cX12_day 82 = .ok (.aload_n 0, 1) := by decide +kernel
theorem dX12_day_83 : decode cX12_day 83 = .ok (.iload 5, 2) := by decide +kernel
theorem dX12_day_85 : decode cX12_day 85 = .ok (.invokevirtual 374, 3) := by decide +kernel
theorem dX12_day_88 : decode cX12_day 88 = .ok (.istore 8, 2) := by decide +kernel
theorem dX12_day_90 : decode cX12_day 90 = .ok (.iload 8, 2) := by decide +kernel
theorem dX12_day_92 : decode cX12_day 92 = .ok (.ifCond .ne 35, 3) := by decide +kernel
theorem dX12_day_95 : decode cX12_day 95 = .ok (.aload_n 0, 1) := by decide +kernel
theorem dX12_day_96 : decode cX12_day 96 = .ok (.getfield 20, 3) := by decide +kernel
theorem dX12_day_99 : decode cX12_day 99 = .ok (.iload 5, 2) := by decide +kernel
theorem dX12_day_101 : decode cX12_day 101 = .ok (.iaload, 1) := by decide +kernel
theorem dX12_day_102 : decode cX12_day 102 = .ok (.iconst 4, 1) := by decide +kernel
theorem dX12_day_103 : decode cX12_day 103 = .ok (.if_icmp .eq 24, 3) := by decide +kernel
theorem dX12_day_106 : decode cX12_day 106 = .ok (.aload_n 0, 1) := by decide +kernel
theorem dX12_day_107 : decode cX12_day 107 = .ok (.getfield 20, 3) := by decide +kernel
theorem dX12_day_110 : decode cX12_day 110 = .ok (.iload 5, 2) := by decide +kernel
theorem dX12_day_112 : decode cX12_day 112 = .ok (.iaload, 1) := by decide +kernel
theorem dX12_day_113 : decode cX12_day 113 = .ok (.bipush 6, 2) := by decide +kernel
theorem dX12_day_115 : decode cX12_day 115 = .ok (.if_icmp .ne 16, 3) := by decide +kernel
theorem dX12_day_118 : decode cX12_day 118 = .ok (.aload_n 0, 1) := by decide +kernel
theorem dX12_day_119 : decode cX12_day 119 = .ok (.iload 5, 2) := by decide +kernel
theorem dX12_day_121 : decode cX12_day 121 = .ok (.invokevirtual 348, 3) := by decide +kernel
theorem dX12_day_124 : decode cX12_day 124 = .ok (.ifCond .eq 7, 3) := by decide +kernel
theorem dX12_day_127 : decode cX12_day 127 = .ok (.iconst 1, 1) := by decide +kernel
theorem dX12_day_128 : decode cX12_day 128 = .ok (.goto 4, 3) := by decide +kernel
theorem dX12_day_131 : decode cX12_day 131 = .ok (.iconst 0, 1) := by decide +kernel
theorem dX12_day_132 : decode cX12_day 132 = .ok (.istore 9, 2) := by decide +kernel
theorem dX12_day_134 : decode cX12_day 134 = .ok (.iload 9, 2) := by decide +kernel
theorem dX12_day_136 : decode cX12_day 136 = .ok (.ifCond .ne 9, 3) := by decide +kernel
theorem dX12_day_139 : decode cX12_day 139 = .ok (.iinc 3 1, 3) := by decide +kernel
theorem dX12_day_142 : decode cX12_day 142 = .ok (.goto 28, 3) := by decide +kernel
theorem dX12_day_145 : decode cX12_day 145 = .ok (.aload_n 0, 1) := by decide +kernel
theorem dX12_day_146 : decode cX12_day 146 = .ok (.iload_n 2, 1) := by decide +kernel
theorem dX12_day_147 : decode cX12_day 147 = .ok (.iload_n 3, 1) := by decide +kernel
theorem dX12_day_148 : decode cX12_day 148 = .ok (.invokevirtual 406, 3) := by decide +kernel
theorem dX12_day_151 : decode cX12_day 151 = .ok (.iload 8, 2) := by decide +kernel
theorem dX12_day_153 : decode cX12_day 153 = .ok (.ifCond .ne 17, 3) := by decide +kernel
theorem dX12_day_156 : decode cX12_day 156 = .ok (.aload_n 0, 1) := by decide +kernel
theorem dX12_day_157 : decode cX12_day 157 = .ok (.iload_n 2, 1) := by decide +kernel
theorem dX12_day_158 : decode cX12_day 158 = .ok (.aload_n 0, 1) := by decide +kernel
theorem dX12_day_159 : decode cX12_day 159 = .ok (.getfield 32, 3) := by decide +kernel
theorem dX12_day_162 : decode cX12_day 162 = .ok (.iload 5, 2) := by decide +kernel
theorem dX12_day_164 : decode cX12_day 164 = .ok (.iaload, 1) := by decide +kernel
theorem dX12_day_165 : decode cX12_day 165 = .ok (.lload 6, 2) := by decide +kernel
theorem dX12_day_167 : decode cX12_day 167 = .ok (.invokevirtual 403, 3) := by decide +kernel
theorem dX12_day_170 : decode cX12_day 170 = .ok (.iinc 4 (-1), 3) := by decide +kernel
theorem dX12_day_173 : decode cX12_day 173 = .ok (.goto (-122), 3) := by decide +kernel
theorem dX12_day_176 : decode cX12_day 176 = .ok (.iinc 2 1, 3) := by decide +kernel
theorem dX12_day_179 : decode cX12_day 179 = .ok (.goto (-146), 3) := by decide +kernel
theorem dX12_day_182 : decode cX12_day 182 = .ok (.aload_n 0, 1) := by decide +kernel
theorem dX12_day_183 : decode cX12_day 183 = .ok (.getfield 364, 3) := by decide +kernel
theorem dX12_day_186 : decode cX12_day 186 = .ok (.iload_n 1, 1) := by decide +kernel
theorem dX12_day_187 : decode cX12_day 187 = .ok (.isub, 1) := by decide +kernel
theorem dX12_day_188 : decode cX12_day 188 = .ok (.ireturn, 1) := by decide +kernel
theorem dX12_asNow_0 : decode cX12_asNow 0 = .ok (.aload_n 0, 1) := by decide +kernel
theorem dX12_asNow_1 : decode cX12_asNow 1 = .ok (.aload_n 0, 1) := by decide +kernel
theorem dX12_asNow_2 : decode cX12_asNow 2 = .ok (.getfield 249, 3) := by decide +kernel
theorem dX12_asNow_5 : decode cX12_asNow 5 = .ok (.i2l, 1) := by decide +kernel
theorem dX12_asNow_6 : decode cX12_asNow 6 = .ok (.putfield 340, 3) := by decide +kernel
theorem dX12_asNow_9 : decode cX12_asNow 9 = .ok (.iconst 0, 1) := by decide +kernel
theorem dX12_asNow_10 : decode cX12_asNow 10 = .ok (.istore_n 1, 1) := by decide +kernel
theorem dX12_asNow_11 : decode cX12_asNow 11 = .ok (.iload_n 1, 1) := by decide +kernel
theorem dX12_asNow_12 : decode cX12_asNow 12 = .ok (.bipush 6, 2) := by decide +kernel
theorem dX12_asNow_14 : decode cX12_asNow 14 = .ok (.if_icmp .ge 25, 3) := by decide +kernel
theorem dX12_asNow_17 : decode cX12_asNow 17 = .ok (.aload_n 0, 1) := by decide +kernel
theorem dX12_asNow_18 : decode cX12_asNow 18 = .ok (.getfield 94, 3) := by decide +kernel
theorem dX12_asNow_21 : decode cX12_asNow 21 = .ok (.iload_n 1, 1) := by decide +kernel
theorem dX12_asNow_22 : decode cX12_asNow 22 = .ok (.aload_n 0, 1) := by decide +kernel
theorem dX12_asNow_23 : decode cX12_asNow 23 = .ok (.iload_n 1, 1) := by decide +kernel
theorem dX12_asNow_24 : decode cX12_asNow 24 = .ok (.aload_n 0, 1) := by decide +kernel
theorem dX12_asNow_25 : decode cX12_asNow 25 = .ok (.getfield 249, 3) := by decide +kernel
theorem dX12_asNow_28 : decode cX12_asNow 28 = .ok (.invokevirtual 258, 3) := by decide +kernel
theorem dX12_asNow_31 : decode cX12_asNow 31 = .ok (.i2l, 1) := by decide +kernel
theorem dX12_asNow_32 : decode cX12_asNow 32 = .ok (.lastore, 1) := by decide +kernel
theorem dX12_asNow_33 : decode cX12_asNow 33 = .ok (.iinc 1 1, 3) := by decide +kernel
theorem dX12_asNow_36 : decode cX12_asNow 36 = .ok (.goto (-25), 3) := by decide +kernel
theorem dX12_asNow_39 : decode cX12_asNow 39 = .ok (.return_, 1) := by decide +kernel
theorem dX12_isLife_0 : decode cX12_isLife 0 = .ok (.iload_n 1, 1) := by decide +kernel
theorem dX12_isLife_1 : decode cX12_isLife 1 = .ok (.ifCond .lt 15, 3) := by decide +kernel
theorem dX12_isLife_4 : decode cX12_isLife 4 = .ok (.iload_n 1, 1) := by decide +kernel
theorem dX12_isLife_5 : decode cX12_isLife 5 = .ok (.aload_n 0, 1) := by decide +kernel
theorem dX12_isLife_6 : decode cX12_isLife 6 = .ok (.getfield 394, 3) := by decide +kernel
theorem dX12_isLife_9 : decode cX12_isLife 9 = .ok (.if_icmp .ge 7, 3) := by decide +kernel
theorem dX12_isLife_12 : decode cX12_isLife 12 = .ok (.iconst 1, 1) := by decide +kernel
theorem dX12_isLife_13 : decode cX12_isLife 13 = .ok (.goto 4, 3) := by decide +kernel
theorem dX12_isLife_16 : decode cX12_isLife 16 = .ok (.iconst 0, 1) := by decide +kernel
theorem dX12_isLife_17 : decode cX12_isLife 17 = .ok (.ireturn, 1) := by decide +kernel
theorem dX12_isStanding_0 : decode cX12_isStanding 0 = .ok (.aload_n 0, 1) := by decide +kernel
theorem dX12_isStanding_1 : decode cX12_isStanding 1 = .ok (.iload_n 1, 1) := by decide +kernel
theorem dX12_isStanding_2 : decode cX12_isStanding 2 = .ok (.invokevirtual 410, 3) := by decide +kernel
theorem dX12_isStanding_5 : decode cX12_isStanding 5 = .ok (.ifCond .eq 25, 3) := by decide +kernel
theorem dX12_isStanding_8 : decode cX12_isStanding 8 = .ok (.iload_n 2, 1) := by decide +kernel
theorem dX12_isStanding_9 : decode cX12_isStanding 9 = .ok (.i2l, 1) := by decide +kernel
theorem dX12_isStanding_10 : decode cX12_isStanding 10 = .ok (.lconst 0, 1) := by decide +kernel
theorem dX12_isStanding_11 : decode cX12_isStanding 11 = .ok (.aload_n 0, 1) := by decide +kernel
theorem dX12_isStanding_12 : decode cX12_isStanding 12 = .ok (.getfield 109, 3) := by decide +kernel
theorem dX12_isStanding_15 : decode cX12_isStanding 15 = .ok (.iload_n 1, 1) := by decide +kernel
theorem dX12_isStanding_16 : decode cX12_isStanding 16 = .ok (.iaload, 1) := by decide +kernel
theorem dX12_isStanding_17 : decode cX12_isStanding 17 = .ok (.iconst 1, 1) := by decide +kernel
theorem dX12_isStanding_18 : decode cX12_isStanding 18 = .ok (.isub, 1) := by decide +kernel
theorem dX12_isStanding_19 : decode cX12_isStanding 19 = .ok (.i2l, 1) := by decide +kernel
theorem dX12_isStanding_20 : decode cX12_isStanding 20 = .ok (.invokestatic 245, 3) := by decide +kernel
theorem dX12_isStanding_23 : decode cX12_isStanding 23 = .ok (.ifCond .eq 7, 3) := by decide +kernel
theorem dX12_isStanding_26 : decode cX12_isStanding 26 = .ok (.iconst 1, 1) := by decide +kernel
theorem dX12_isStanding_27 : decode cX12_isStanding 27 = .ok (.goto 4, 3) := by decide +kernel
theorem dX12_isStanding_30 : decode cX12_isStanding 30 = .ok (.iconst 0, 1) := by decide +kernel
theorem dX12_isStanding_31 : decode cX12_isStanding 31 = .ok (.ireturn, 1) := by decide +kernel
theorem dX12_stands_0 : decode cX12_stands 0 = .ok (.aload_n 0, 1) := by decide +kernel
theorem dX12_stands_1 : decode cX12_stands 1 = .ok (.iload_n 1, 1) := by decide +kernel
theorem dX12_stands_2 : decode cX12_stands 2 = .ok (.invokevirtual 410, 3) := by decide +kernel
theorem dX12_stands_5 : decode cX12_stands 5 = .ok (.ifCond .eq 12, 3) := by decide +kernel
theorem dX12_stands_8 : decode cX12_stands 8 = .ok (.aload_n 0, 1) := by decide +kernel
theorem dX12_stands_9 : decode cX12_stands 9 = .ok (.getfield 109, 3) := by decide +kernel
theorem dX12_stands_12 : decode cX12_stands 12 = .ok (.iload_n 1, 1) := by decide +kernel
theorem dX12_stands_13 : decode cX12_stands 13 = .ok (.iaload, 1) := by decide +kernel
theorem dX12_stands_14 : decode cX12_stands 14 = .ok (.goto 4, 3) := by decide +kernel
theorem dX12_stands_17 : decode cX12_stands 17 = .ok (.iconst (-1), 1) := by decide +kernel
theorem dX12_stands_18 : decode cX12_stands 18 = .ok (.ireturn, 1) := by decide +kernel
theorem dX12_standing_0 : decode cX12_standing 0 = .ok (.aload_n 0, 1) := by decide +kernel
theorem dX12_standing_1 : decode cX12_standing 1 = .ok (.iload_n 1, 1) := by decide +kernel
theorem dX12_standing_2 : decode cX12_standing 2 = .ok (.iload_n 2, 1) := by decide +kernel
theorem dX12_standing_3 : decode cX12_standing 3 = .ok (.invokevirtual 416, 3) := by decide +kernel
theorem dX12_standing_6 : decode cX12_standing 6 = .ok (.ifCond .ne 5, 3) := by decide +kernel
theorem dX12_standing_9 : decode cX12_standing 9 = .ok (.iconst (-1), 1) := by decide +kernel
theorem dX12_standing_10 : decode cX12_standing 10 = .ok (.ireturn, 1) := by decide +kernel
theorem dX12_standing_11 : decode cX12_standing 11 = .ok (.aload_n 0, 1) := by decide +kernel
theorem dX12_standing_12 : decode cX12_standing 12 = .ok (.getfield 112, 3) := by decide +kernel
theorem dX12_standing_15 : decode cX12_standing 15 = .ok (.bipush 40, 2) := by decide +kernel
theorem dX12_standing_17 : decode cX12_standing 17 = .ok (.iload_n 1, 1) := by decide +kernel
theorem dX12_standing_18 : decode cX12_standing 18 = .ok (.imul, 1) := by decide +kernel
theorem dX12_standing_19 : decode cX12_standing 19 = .ok (.iload_n 2, 1) := by decide +kernel
theorem dX12_standing_20 : decode cX12_standing 20 = .ok (.iadd, 1) := by decide +kernel
theorem dX12_standing_21 : decode cX12_standing 21 = .ok (.iaload, 1) := by decide +kernel
theorem dX12_standing_22 : decode cX12_standing 22 = .ok (.istore 4, 2) := by decide +kernel
theorem dX12_standing_24 : decode cX12_standing 24 = .ok (.aload_n 0, 1) := by decide +kernel
theorem dX12_standing_25 : decode cX12_standing 25 = .ok (.invokevirtual 400, 3) := by decide +kernel
theorem dX12_standing_28 : decode cX12_standing 28 = .ok (.iload_n 3, 1) := by decide +kernel
theorem dX12_standing_29 : decode cX12_standing 29 = .ok (.tableswitch 118 0 6 #[43, 49, 57, 65, 78, 85, 92], 43) := by decide +kernel
theorem dX12_standing_72 : decode cX12_standing 72 = .ok (.iload 4, 2) := by decide +kernel
theorem dX12_standing_74 : decode cX12_standing 74 = .ok (.bipush 40, 2) := by decide +kernel
theorem dX12_standing_76 : decode cX12_standing 76 = .ok (.irem, 1) := by decide +kernel
theorem dX12_standing_77 : decode cX12_standing 77 = .ok (.ireturn, 1) := by decide +kernel
theorem dX12_standing_78 : decode cX12_standing 78 = .ok (.aload_n 0, 1) := by decide +kernel
theorem dX12_standing_79 : decode cX12_standing 79 = .ok (.getfield 20, 3) := by decide +kernel
theorem dX12_standing_82 : decode cX12_standing 82 = .ok (.iload 4, 2) := by decide +kernel
theorem dX12_standing_84 : decode cX12_standing 84 = .ok (.iaload, 1) := by decide +kernel
theorem dX12_standing_85 : decode cX12_standing 85 = .ok (.ireturn, 1) := by decide +kernel
theorem dX12_standing_86 : decode cX12_standing 86 = .ok (.aload_n 0, 1) := by decide +kernel
theorem dX12_standing_87 : decode cX12_standing 87 = .ok (.iload_n 1, 1) := by decide +kernel
theorem dX12_standing_88 : decode cX12_standing 88 = .ok (.iload 4, 2) := by decide +kernel
theorem dX12_standing_90 : decode cX12_standing 90 = .ok (.invokevirtual 419, 3) := by decide +kernel
theorem dX12_standing_93 : decode cX12_standing 93 = .ok (.ireturn, 1) := by decide +kernel
theorem dX12_standing_94 : decode cX12_standing 94 = .ok (.aload_n 0, 1) := by decide +kernel
theorem dX12_standing_95 : decode cX12_standing 95 = .ok (.getfield 115, 3) := by decide +kernel
theorem dX12_standing_98 : decode cX12_standing 98 = .ok (.bipush 40, 2) := by decide +kernel
theorem dX12_standing_100 : decode cX12_standing 100 = .ok (.iload_n 1, 1) := by decide +kernel
theorem dX12_standing_101 : decode cX12_standing 101 = .ok (.imul, 1) := by decide +kernel
theorem dX12_standing_102 : decode cX12_standing 102 = .ok (.iload_n 2, 1) := by decide +kernel
theorem dX12_standing_103 : decode cX12_standing 103 = .ok (.iadd, 1) := by decide +kernel
theorem dX12_standing_104 : decode cX12_standing 104 = .ok (.laload, 1) := by decide +kernel
theorem dX12_standing_105 : decode cX12_standing 105 = .ok (.l2i, 1) := by decide +kernel
theorem dX12_standing_106 : decode cX12_standing 106 = .ok (.ireturn, 1) := by decide +kernel
theorem dX12_standing_107 : decode cX12_standing 107 = .ok (.aload_n 0, 1) := by decide +kernel
theorem dX12_standing_108 : decode cX12_standing 108 = .ok (.iload 4, 2) := by decide +kernel
theorem dX12_standing_110 : decode cX12_standing 110 = .ok (.invokevirtual 351, 3) := by decide +kernel
theorem dX12_standing_113 : decode cX12_standing 113 = .ok (.ireturn, 1) := by decide +kernel
theorem dX12_standing_114 : decode cX12_standing 114 = .ok (.aload_n 0, 1) := by decide +kernel
theorem dX12_standing_115 : decode cX12_standing 115 = .ok (.iload 4, 2) := by decide +kernel
theorem dX12_standing_117 : decode cX12_standing 117 = .ok (.invokevirtual 422, 3) := by decide +kernel
theorem dX12_standing_120 : decode cX12_standing 120 = .ok (.ireturn, 1) := by decide +kernel
theorem dX12_standing_121 : decode cX12_standing 121 = .ok (.aload_n 0, 1) := by decide +kernel
theorem dX12_standing_122 : decode cX12_standing 122 = .ok (.getfield 20, 3) := by decide +kernel
theorem dX12_standing_125 : decode cX12_standing 125 = .ok (.iload 4, 2) := by decide +kernel
theorem dX12_standing_127 : decode cX12_standing 127 = .ok (.iaload, 1) := by decide +kernel
theorem dX12_standing_128 : decode cX12_standing 128 = .ok (.iconst 4, 1) := by decide +kernel
theorem dX12_standing_129 : decode cX12_standing 129 = .ok (.if_icmp .eq 12, 3) := by decide +kernel
theorem dX12_standing_132 : decode cX12_standing 132 = .ok (.aload_n 0, 1) := by decide +kernel
theorem dX12_standing_133 : decode cX12_standing 133 = .ok (.iload 4, 2) := by decide +kernel
theorem dX12_standing_135 : decode cX12_standing 135 = .ok (.invokevirtual 348, 3) := by decide +kernel
theorem dX12_standing_138 : decode cX12_standing 138 = .ok (.ifCond .eq 7, 3) := by decide +kernel
theorem dX12_standing_141 : decode cX12_standing 141 = .ok (.iconst 1, 1) := by decide +kernel
theorem dX12_standing_142 : decode cX12_standing 142 = .ok (.goto 4, 3) := by decide +kernel
theorem dX12_standing_145 : decode cX12_standing 145 = .ok (.iconst 0, 1) := by decide +kernel
theorem dX12_standing_146 : decode cX12_standing 146 = .ok (.ireturn, 1) := by decide +kernel
theorem dX12_standing_147 : decode cX12_standing 147 = .ok (.iconst (-1), 1) := by decide +kernel
theorem dX12_standing_148 : decode cX12_standing 148 = .ok (.ireturn, 1) := by decide +kernel
theorem dX12_choose_0 : decode cX12_choose 0 = .ok (.aload_n 0, 1) := by decide +kernel
theorem dX12_choose_1 : decode cX12_choose 1 = .ok (.iload_n 1, 1) := by decide +kernel
theorem dX12_choose_2 : decode cX12_choose 2 = .ok (.iload_n 2, 1) := by decide +kernel
theorem dX12_choose_3 : decode cX12_choose 3 = .ok (.invokevirtual 416, 3) := by decide +kernel
theorem dX12_choose_6 : decode cX12_choose 6 = .ok (.ifCond .eq 14, 3) := by decide +kernel
theorem dX12_choose_9 : decode cX12_choose 9 = .ok (.iload 4, 2) := by decide +kernel
theorem dX12_choose_11 : decode cX12_choose 11 = .ok (.i2l, 1) := by decide +kernel
theorem dX12_choose_12 : decode cX12_choose 12 = .ok (.lconst 0, 1) := by decide +kernel
theorem dX12_choose_13 : decode cX12_choose 13 = .ok (.lconst 1, 1) := by decide +kernel
theorem dX12_choose_14 : decode cX12_choose 14 = .ok (.invokestatic 245, 3) := by decide +kernel
theorem dX12_choose_17 : decode cX12_choose 17 = .ok (.ifCond .ne 5, 3) := by decide +kernel
theorem dX12_choose_20 : decode cX12_choose 20 = .ok (.iconst (-1), 1) := by decide +kernel
theorem dX12_choose_21 : decode cX12_choose 21 = .ok (.ireturn, 1) := by decide +kernel
theorem dX12_choose_22 : decode cX12_choose 22 = .ok (.aload_n 0, 1) := by decide +kernel
theorem dX12_choose_23 : decode cX12_choose 23 = .ok (.getfield 112, 3) := by decide +kernel
theorem dX12_choose_26 : decode cX12_choose 26 = .ok (.bipush 40, 2) := by decide +kernel
theorem dX12_choose_28 : decode cX12_choose 28 = .ok (.iload_n 1, 1) := by decide +kernel
theorem dX12_choose_29 : decode cX12_choose 29 = .ok (.imul, 1) := by decide +kernel
theorem dX12_choose_30 : decode cX12_choose 30 = .ok (.iload_n 2, 1) := by decide +kernel
theorem dX12_choose_31 : decode cX12_choose 31 = .ok (.iadd, 1) := by decide +kernel
theorem dX12_choose_32 : decode cX12_choose 32 = .ok (.iaload, 1) := by decide +kernel
theorem dX12_choose_33 : decode cX12_choose 33 = .ok (.istore 5, 2) := by decide +kernel
theorem dX12_choose_35 : decode cX12_choose 35 = .ok (.aload_n 0, 1) := by decide +kernel
theorem dX12_choose_36 : decode cX12_choose 36 = .ok (.getfield 115, 3) := by decide +kernel
theorem dX12_choose_39 : decode cX12_choose 39 = .ok (.bipush 40, 2) := by decide +kernel
theorem dX12_choose_41 : decode cX12_choose 41 = .ok (.iload_n 1, 1) := by decide +kernel
theorem dX12_choose_42 : decode cX12_choose 42 = .ok (.imul, 1) := by decide +kernel
theorem dX12_choose_43 : decode cX12_choose 43 = .ok (.iload_n 2, 1) := by decide +kernel
theorem dX12_choose_44 : decode cX12_choose 44 = .ok (.iadd, 1) := by decide +kernel
theorem dX12_choose_45 : decode cX12_choose 45 = .ok (.laload, 1) := by decide +kernel
theorem dX12_choose_46 : decode cX12_choose 46 = .ok (.lstore 6, 2) := by decide +kernel
theorem dX12_choose_48 : decode cX12_choose 48 = .ok (.aload_n 0, 1) := by decide +kernel
theorem dX12_choose_49 : decode cX12_choose 49 = .ok (.invokevirtual 400, 3) := by decide +kernel
theorem dX12_choose_52 : decode cX12_choose 52 = .ok (.aload_n 0, 1) := by decide +kernel
theorem dX12_choose_53 : decode cX12_choose 53 = .ok (.getfield 20, 3) := by decide +kernel
theorem dX12_choose_56 : decode cX12_choose 56 = .ok (.iload 5, 2) := by decide +kernel
theorem dX12_choose_58 : decode cX12_choose 58 = .ok (.iaload, 1) := by decide +kernel
theorem dX12_choose_59 : decode cX12_choose 59 = .ok (.iconst 4, 1) := by decide +kernel
theorem dX12_choose_60 : decode cX12_choose 60 = .ok (.if_icmp .ne 23, 3) := by decide +kernel
theorem dX12_choose_63 : decode cX12_choose 63 = .ok (.iload_n 3, 1) := by decide +kernel
theorem dX12_choose_64 : decode cX12_choose 64 = .ok (.aload_n 0, 1) := by decide +kernel
theorem dX12_choose_65 : decode cX12_choose 65 = .ok (.iload_n 1, 1) := by decide +kernel
theorem dX12_choose_66 : decode cX12_choose 66 = .ok (.iload 5, 2) := by decide +kernel
theorem dX12_choose_68 : decode cX12_choose 68 = .ok (.invokevirtual 419, 3) := by decide +kernel
theorem dX12_choose_71 : decode cX12_choose 71 = .ok (.if_icmp .ne 12, 3) := by decide +kernel
theorem dX12_choose_74 : decode cX12_choose 74 = .ok (.aload_n 0, 1) := by decide +kernel
theorem dX12_choose_75 : decode cX12_choose 75 = .ok (.iload 5, 2) := by decide +kernel
theorem dX12_choose_77 : decode cX12_choose 77 = .ok (.invokevirtual 374, 3) := by decide +kernel
theorem dX12_choose_80 : decode cX12_choose 80 = .ok (.ifCond .eq 5, 3) := by decide +kernel
theorem dX12_choose_83 : decode cX12_choose 83 = .ok (.iconst (-1), 1) := by decide +kernel
theorem dX12_choose_84 : decode cX12_choose 84 = .ok (.ireturn, 1) := by decide +kernel
theorem dX12_choose_85 : decode cX12_choose 85 = .ok (.aload_n 0, 1) := by decide +kernel
theorem dX12_choose_86 : decode cX12_choose 86 = .ok (.getfield 364, 3) := by decide +kernel
theorem dX12_choose_89 : decode cX12_choose 89 = .ok (.istore 8, 2) := by decide +kernel
theorem dX12_choose_91 : decode cX12_choose 91 = .ok (.aload_n 0, 1) := by decide +kernel
theorem dX12_choose_92 : decode cX12_choose 92 = .ok (.iload_n 1, 1) := by decide +kernel
theorem dX12_choose_93 : decode cX12_choose 93 = .ok (.iload_n 2, 1) := by decide +kernel
theorem dX12_choose_94 : decode cX12_choose 94 = .ok (.invokevirtual 406, 3) := by decide +kernel
theorem dX12_choose_97 : decode cX12_choose 97 = .ok (.aload_n 0, 1) := by decide +kernel
theorem dX12_choose_98 : decode cX12_choose 98 = .ok (.iload_n 1, 1) := by decide +kernel
theorem dX12_choose_99 : decode cX12_choose 99 = .ok (.iload 4, 2) := by decide +kernel
theorem dX12_choose_101 : decode cX12_choose 101 = .ok (.ifCond .ne 13, 3) := by decide +kernel
theorem dX12_choose_104 : decode cX12_choose 104 = .ok (.aload_n 0, 1) := by decide +kernel
theorem dX12_choose_105 : decode cX12_choose 105 = .ok (.getfield 32, 3) := by decide +kernel
theorem dX12_choose_108 : decode cX12_choose 108 = .ok (.iload 5, 2) := by decide +kernel
theorem dX12_choose_110 : decode cX12_choose 110 = .ok (.iaload, 1) := by decide +kernel
theorem dX12_choose_111 : decode cX12_choose 111 = .ok (.goto 10, 3) := by decide +kernel
theorem dX12_choose_114 : decode cX12_choose 114 = .ok (.aload_n 0, 1) := by decide +kernel
theorem dX12_choose_115 : decode cX12_choose 115 = .ok (.getfield 35, 3) := by decide +kernel
theorem dX12_choose_118 : decode cX12_choose 118 = .ok (.iload 5, 2) := by decide +kernel
theorem dX12_choose_120 : decode cX12_choose 120 = .ok (.iaload, 1) := by decide +kernel
theorem dX12_choose_121 : decode cX12_choose 121 = .ok (.lload 6, 2) := by decide +kernel
theorem dX12_choose_123 : decode cX12_choose 123 = .ok (.invokevirtual 403, 3) := by decide +kernel
theorem dX12_choose_126 : decode cX12_choose 126 = .ok (.aload_n 0, 1) := by decide +kernel
theorem dX12_choose_127 : decode cX12_choose 127 = .ok (.getfield 364, 3) := by decide +kernel
theorem dX12_choose_130 : decode cX12_choose 130 = .ok (.iload 8, 2) := by decide +kernel
theorem dX12_choose_132 : decode cX12_choose 132 = .ok (.isub, 1) := by decide +kernel
theorem dX12_choose_133 : decode cX12_choose 133 = .ok (.ireturn, 1) := by decide +kernel
theorem dX12_take_0 : decode cX12_take 0 = .ok (.aload_n 0, 1) := by decide +kernel
theorem dX12_take_1 : decode cX12_take 1 = .ok (.iload_n 1, 1) := by decide +kernel
theorem dX12_take_2 : decode cX12_take 2 = .ok (.iload_n 2, 1) := by decide +kernel
theorem dX12_take_3 : decode cX12_take 3 = .ok (.invokevirtual 416, 3) := by decide +kernel
theorem dX12_take_6 : decode cX12_take 6 = .ok (.ifCond .ne 5, 3) := by decide +kernel
theorem dX12_take_9 : decode cX12_take 9 = .ok (.iconst (-1), 1) := by decide +kernel
theorem dX12_take_10 : decode cX12_take 10 = .ok (.ireturn, 1) := by decide +kernel
theorem dX12_take_11 : decode cX12_take 11 = .ok (.aload_n 0, 1) := by decide +kernel
theorem dX12_take_12 : decode cX12_take 12 = .ok (.getfield 112, 3) := by decide +kernel
theorem dX12_take_15 : decode cX12_take 15 = .ok (.bipush 40, 2) := by decide +kernel
theorem dX12_take_17 : decode cX12_take 17 = .ok (.iload_n 1, 1) := by decide +kernel
theorem dX12_take_18 : decode cX12_take 18 = .ok (.imul, 1) := by decide +kernel
theorem dX12_take_19 : decode cX12_take 19 = .ok (.iload_n 2, 1) := by decide +kernel
theorem dX12_take_20 : decode cX12_take 20 = .ok (.iadd, 1) := by decide +kernel
theorem dX12_take_21 : decode cX12_take 21 = .ok (.iaload, 1) := by decide +kernel
theorem dX12_take_22 : decode cX12_take 22 = .ok (.istore 4, 2) := by decide +kernel
theorem dX12_take_24 : decode cX12_take 24 = .ok (.aload_n 0, 1) := by decide +kernel
theorem dX12_take_25 : decode cX12_take 25 = .ok (.getfield 115, 3) := by decide +kernel
theorem dX12_take_28 : decode cX12_take 28 = .ok (.bipush 40, 2) := by decide +kernel
theorem dX12_take_30 : decode cX12_take 30 = .ok (.iload_n 1, 1) := by decide +kernel
theorem dX12_take_31 : decode cX12_take 31 = .ok (.imul, 1) := by decide +kernel
theorem dX12_take_32 : decode cX12_take 32 = .ok (.iload_n 2, 1) := by decide +kernel
theorem dX12_take_33 : decode cX12_take 33 = .ok (.iadd, 1) := by decide +kernel
theorem dX12_take_34 : decode cX12_take 34 = .ok (.laload, 1) := by decide +kernel
theorem dX12_take_35 : decode cX12_take 35 = .ok (.lstore 5, 2) := by decide +kernel
theorem dX12_take_37 : decode cX12_take 37 = .ok (.aload_n 0, 1) := by decide +kernel
theorem dX12_take_38 : decode cX12_take 38 = .ok (.invokevirtual 400, 3) := by decide +kernel
theorem dX12_take_41 : decode cX12_take 41 = .ok (.aload_n 0, 1) := by decide +kernel
theorem dX12_take_42 : decode cX12_take 42 = .ok (.getfield 20, 3) := by decide +kernel
theorem dX12_take_45 : decode cX12_take 45 = .ok (.iload 4, 2) := by decide +kernel
theorem dX12_take_47 : decode cX12_take 47 = .ok (.iaload, 1) := by decide +kernel
theorem dX12_take_48 : decode cX12_take 48 = .ok (.bipush 7, 2) := by decide +kernel
theorem dX12_take_50 : decode cX12_take 50 = .ok (.if_icmp .ne 32, 3) := by decide +kernel
theorem dX12_take_53 : decode cX12_take 53 = .ok (.iload_n 3, 1) := by decide +kernel
theorem dX12_take_54 : decode cX12_take 54 = .ok (.aload_n 0, 1) := by decide +kernel
theorem dX12_take_55 : decode cX12_take 55 = .ok (.iload_n 1, 1) := by decide +kernel
theorem dX12_take_56 : decode cX12_take 56 = .ok (.iload 4, 2) := by decide +kernel
theorem dX12_take_58 : decode cX12_take 58 = .ok (.invokevirtual 419, 3) := by decide +kernel
theorem dX12_take_61 : decode cX12_take 61 = .ok (.if_icmp .ne 21, 3) := by decide +kernel
theorem dX12_take_64 : decode cX12_take 64 = .ok (.aload_n 0, 1) := by decide +kernel
theorem dX12_take_65 : decode cX12_take 65 = .ok (.iload 4, 2) := by decide +kernel
theorem dX12_take_67 : decode cX12_take 67 = .ok (.invokevirtual 374, 3) := by decide +kernel
theorem dX12_take_70 : decode cX12_take 70 = .ok (.ifCond .ne 12, 3) := by decide +kernel
theorem dX12_take_73 : decode cX12_take 73 = .ok (.aload_n 0, 1) := by decide +kernel
theorem dX12_take_74 : decode cX12_take 74 = .ok (.iload 4, 2) := by decide +kernel
theorem dX12_take_76 : decode cX12_take 76 = .ok (.invokevirtual 348, 3) := by decide +kernel
theorem dX12_take_79 : decode cX12_take 79 = .ok (.ifCond .ne 5, 3) := by decide +kernel
theorem dX12_take_82 : decode cX12_take 82 = .ok (.iconst (-1), 1) := by decide +kernel
theorem dX12_take_83 : decode cX12_take 83 = .ok (.ireturn, 1) := by decide +kernel
theorem dX12_take_84 : decode cX12_take 84 = .ok (.aload_n 0, 1) := by decide +kernel
theorem dX12_take_85 : decode cX12_take 85 = .ok (.getfield 364, 3) := by decide +kernel
theorem dX12_take_88 : decode cX12_take 88 = .ok (.istore 7, 2) := by decide +kernel
theorem dX12_take_90 : decode cX12_take 90 = .ok (.aload_n 0, 1) := by decide +kernel
theorem dX12_take_91 : decode cX12_take 91 = .ok (.iload_n 1, 1) := by decide +kernel
theorem dX12_take_92 : decode cX12_take 92 = .ok (.iload_n 2, 1) := by decide +kernel
theorem dX12_take_93 : decode cX12_take 93 = .ok (.invokevirtual 406, 3) := by decide +kernel
theorem dX12_take_96 : decode cX12_take 96 = .ok (.aload_n 0, 1) := by decide +kernel
theorem dX12_take_97 : decode cX12_take 97 = .ok (.iload_n 1, 1) := by decide +kernel
theorem dX12_take_98 : decode cX12_take 98 = .ok (.aload_n 0, 1) := by decide +kernel
theorem dX12_take_99 : decode cX12_take 99 = .ok (.getfield 32, 3) := by decide +kernel
theorem dX12_take_102 : decode cX12_take 102 = .ok (.iload 4, 2) := by decide +kernel
theorem dX12_take_104 : decode cX12_take 104 = .ok (.iaload, 1) := by decide +kernel
theorem dX12_take_105 : decode cX12_take 105 = .ok (.lload 5, 2) := by decide +kernel
theorem dX12_take_107 : decode cX12_take 107 = .ok (.invokevirtual 403, 3) := by decide +kernel
theorem dX12_take_110 : decode cX12_take 110 = .ok (.aload_n 0, 1) := by decide +kernel
theorem dX12_take_111 : decode cX12_take 111 = .ok (.getfield 364, 3) := by decide +kernel
theorem dX12_take_114 : decode cX12_take 114 = .ok (.iload 7, 2) := by decide +kernel
theorem dX12_take_116 : decode cX12_take 116 = .ok (.isub, 1) := by decide +kernel
theorem dX12_take_117 : decode cX12_take 117 = .ok (.ireturn, 1) := by decide +kernel
theorem dX12_payment_0 : decode cX12_payment 0 = .ok (.iload_n 1, 1) := by decide +kernel
theorem dX12_payment_1 : decode cX12_payment 1 = .ok (.i2l, 1) := by decide +kernel
theorem dX12_payment_2 : decode cX12_payment 2 = .ok (.lconst 0, 1) := by decide +kernel
theorem dX12_payment_3 : decode cX12_payment 3 = .ok (.aload_n 0, 1) := by decide +kernel
theorem dX12_payment_4 : decode cX12_payment 4 = .ok (.getfield 364, 3) := by decide +kernel
theorem dX12_payment_7 : decode cX12_payment 7 = .ok (.iconst 1, 1) := by decide +kernel
theorem dX12_payment_8 : decode cX12_payment 8 = .ok (.isub, 1) := by decide +kernel
theorem dX12_payment_9 : decode cX12_payment 9 = .ok (.i2l, 1) := by decide +kernel
theorem dX12_payment_10 : decode cX12_payment 10 = .ok (.invokestatic 245, 3) := by decide +kernel
theorem dX12_payment_13 : decode cX12_payment 13 = .ok (.ifCond .ne 7, 3) := by decide +kernel
theorem dX12_payment_16 : decode cX12_payment 16 = .ok (.ldc_w 425, 3) := by decide +kernel
theorem dX12_payment_19 : decode cX12_payment 19 = .ok (.ireturn, 1) := by decide +kernel
theorem dX12_payment_20 : decode cX12_payment 20 = .ok (.iload_n 2, 1) := by decide +kernel
theorem dX12_payment_21 : decode cX12_payment 21 = .ok (.tableswitch 59 0 3 #[31, 38, 45, 52], 31) := by decide +kernel
theorem dX12_payment_52 : decode cX12_payment 52 = .ok (.aload_n 0, 1) := by decide +kernel
theorem dX12_payment_53 : decode cX12_payment 53 = .ok (.getfield 118, 3) := by decide +kernel
theorem dX12_payment_56 : decode cX12_payment 56 = .ok (.iload_n 1, 1) := by decide +kernel
theorem dX12_payment_57 : decode cX12_payment 57 = .ok (.iaload, 1) := by decide +kernel
theorem dX12_payment_58 : decode cX12_payment 58 = .ok (.ireturn, 1) := by decide +kernel
theorem dX12_payment_59 : decode cX12_payment 59 = .ok (.aload_n 0, 1) := by decide +kernel
theorem dX12_payment_60 : decode cX12_payment 60 = .ok (.getfield 121, 3) := by decide +kernel
theorem dX12_payment_63 : decode cX12_payment 63 = .ok (.iload_n 1, 1) := by decide +kernel
theorem dX12_payment_64 : decode cX12_payment 64 = .ok (.iaload, 1) := by decide +kernel
theorem dX12_payment_65 : decode cX12_payment 65 = .ok (.ireturn, 1) := by decide +kernel
theorem dX12_payment_66 : decode cX12_payment 66 = .ok (.aload_n 0, 1) := by decide +kernel
theorem dX12_payment_67 : decode cX12_payment 67 = .ok (.getfield 124, 3) := by decide +kernel
theorem dX12_payment_70 : decode cX12_payment 70 = .ok (.iload_n 1, 1) := by decide +kernel
theorem dX12_payment_71 : decode cX12_payment 71 = .ok (.iaload, 1) := by decide +kernel
theorem dX12_payment_72 : decode cX12_payment 72 = .ok (.ireturn, 1) := by decide +kernel
theorem dX12_payment_73 : decode cX12_payment 73 = .ok (.aload_n 0, 1) := by decide +kernel
theorem dX12_payment_74 : decode cX12_payment 74 = .ok (.getfield 127, 3) := by decide +kernel
theorem dX12_payment_77 : decode cX12_payment 77 = .ok (.iload_n 1, 1) := by decide +kernel
theorem dX12_payment_78 : decode cX12_payment 78 = .ok (.iaload, 1) := by decide +kernel
theorem dX12_payment_79 : decode cX12_payment 79 = .ok (.ireturn, 1) := by decide +kernel
theorem dX12_payment_80 : decode cX12_payment 80 = .ok (.ldc_w 425, 3) := by decide +kernel
theorem dX12_payment_83 : decode cX12_payment 83 = .ok (.ireturn, 1) := by decide +kernel
theorem dX12_got_0 : decode cX12_got 0 = .ok (.aload_n 0, 1) := by decide +kernel
theorem dX12_got_1 : decode cX12_got 1 = .ok (.iload_n 1, 1) := by decide +kernel
theorem dX12_got_2 : decode cX12_got 2 = .ok (.invokevirtual 410, 3) := by decide +kernel
theorem dX12_got_5 : decode cX12_got 5 = .ok (.ifCond .eq 12, 3) := by decide +kernel
theorem dX12_got_8 : decode cX12_got 8 = .ok (.aload_n 0, 1) := by decide +kernel
theorem dX12_got_9 : decode cX12_got 9 = .ok (.getfield 106, 3) := by decide +kernel
theorem dX12_got_12 : decode cX12_got 12 = .ok (.iload_n 1, 1) := by decide +kernel
theorem dX12_got_13 : decode cX12_got 13 = .ok (.laload, 1) := by decide +kernel
theorem dX12_got_14 : decode cX12_got 14 = .ok (.goto 4, 3) := by decide +kernel
theorem dX12_got_17 : decode cX12_got 17 = .ok (.lconst 0, 1) := by decide +kernel
theorem dX12_got_18 : decode cX12_got 18 = .ok (.lreturn, 1) := by decide +kernel
theorem dX12_net_0 : decode cX12_net 0 = .ok (.iload_n 1, 1) := by decide +kernel
theorem dX12_net_1 : decode cX12_net 1 = .ok (.i2l, 1) := by decide +kernel
theorem dX12_net_2 : decode cX12_net 2 = .ok (.lconst 0, 1) := by decide +kernel
theorem dX12_net_3 : decode cX12_net 3 = .ok (.ldc2_w 256, 3) := by decide +kernel
theorem dX12_net_6 : decode cX12_net 6 = .ok (.invokestatic 245, 3) := by decide +kernel
theorem dX12_net_9 : decode cX12_net 9 = .ok (.ifCond .ne 5, 3) := by decide +kernel
theorem dX12_net_12 : decode cX12_net 12 = .ok (.iconst (-1), 1) := by decide +kernel
theorem dX12_net_13 : decode cX12_net 13 = .ok (.ireturn, 1) := by decide +kernel
theorem dX12_net_14 : decode cX12_net 14 = .ok (.iconst 0, 1) := by decide +kernel
theorem dX12_net_15 : decode cX12_net 15 = .ok (.istore_n 2, 1) := by decide +kernel
theorem dX12_net_16 : decode cX12_net 16 = .ok (.iload_n 2, 1) := by decide +kernel
theorem dX12_net_17 : decode cX12_net 17 = .ok (.bipush 8, 2) := by decide +kernel
theorem dX12_net_19 : decode cX12_net 19 = .ok (.if_icmp .ge 16, 3) := by decide +kernel
theorem dX12_net_22 : decode cX12_net 22 = .ok (.aload_n 0, 1) := by decide +kernel
theorem dX12_net_23 : decode cX12_net 23 = .ok (.getfield 145, 3) := by decide +kernel
theorem dX12_net_26 : decode cX12_net 26 = .ok (.iload_n 2, 1) := by decide +kernel
theorem dX12_net_27 : decode cX12_net 27 = .ok (.lconst 0, 1) := by decide +kernel
theorem dX12_net_28 : decode cX12_net 28 = .ok (.lastore, 1) := by decide +kernel
theorem dX12_net_29 : decode cX12_net 29 = .ok (.iinc 2 1, 3) := by decide +kernel
theorem dX12_net_32 : decode cX12_net 32 = .ok (.goto (-16), 3) := by decide +kernel
theorem dX12_net_35 : decode cX12_net 35 = .ok (.iconst 0, 1) := by decide +kernel
theorem dX12_net_36 : decode cX12_net 36 = .ok (.istore_n 2, 1) := by decide +kernel
theorem dX12_net_37 : decode cX12_net 37 = .ok (.iload_n 2, 1) := by decide +kernel
theorem dX12_net_38 : decode cX12_net 38 = .ok (.aload_n 0, 1) := by decide +kernel
theorem dX12_net_39 : decode cX12_net 39 = .ok (.getfield 364, 3) := by decide +kernel
theorem dX12_net_42 : decode cX12_net 42 = .ok (.if_icmp .ge 74, 3) := by decide +kernel
theorem dX12_net_45 : decode cX12_net 45 = .ok (.aload_n 0, 1) := by decide +kernel
theorem dX12_net_46 : decode cX12_net 46 = .ok (.getfield 121, 3) := by decide +kernel
theorem dX12_net_49 : decode cX12_net 49 = .ok (.iload_n 2, 1) := by decide +kernel
theorem dX12_net_50 : decode cX12_net 50 = .ok (.iaload, 1) := by decide +kernel
theorem dX12_net_51 : decode cX12_net 51 = .ok (.iload_n 1, 1) := by decide +kernel
theorem dX12_net_52 : decode cX12_net 52 = .ok (.if_icmp .eq 6, 3) := by decide +kernel
theorem dX12_net_55 : decode cX12_net 55 = .ok (.goto 55, 3) := by decide +kernel
theorem dX12_net_58 : decode cX12_net 58 = .ok (.aload_n 0, 1) := by decide +kernel
theorem dX12_net_59 : decode cX12_net 59 = .ok (.getfield 145, 3) := by decide +kernel
theorem dX12_net_62 : decode cX12_net 62 = .ok (.aload_n 0, 1) := by decide +kernel
theorem dX12_net_63 : decode cX12_net 63 = .ok (.getfield 100, 3) := by decide +kernel
theorem dX12_net_66 : decode cX12_net 66 = .ok (.aload_n 0, 1) := by decide +kernel
theorem dX12_net_67 : decode cX12_net 67 = .ok (.getfield 118, 3) := by decide +kernel
theorem dX12_net_70 : decode cX12_net 70 = .ok (.iload_n 2, 1) := by decide +kernel
theorem dX12_net_71 : decode cX12_net 71 = .ok (.iaload, 1) := by decide +kernel
theorem dX12_net_72 : decode cX12_net 72 = .ok (.iaload, 1) := by decide +kernel
theorem dX12_net_73 : decode cX12_net 73 = .ok (.dup2, 1) := by decide +kernel
theorem dX12_net_74 : decode cX12_net 74 = .ok (.laload, 1) := by decide +kernel
theorem dX12_net_75 : decode cX12_net 75 = .ok (.aload_n 0, 1) := by decide +kernel
theorem dX12_net_76 : decode cX12_net 76 = .ok (.getfield 124, 3) := by decide +kernel
theorem dX12_net_79 : decode cX12_net 79 = .ok (.iload_n 2, 1) := by decide +kernel
theorem dX12_net_80 : decode cX12_net 80 = .ok (.iaload, 1) := by decide +kernel
theorem dX12_net_81 : decode cX12_net 81 = .ok (.i2l, 1) := by decide +kernel
theorem dX12_net_82 : decode cX12_net 82 = .ok (.ladd, 1) := by decide +kernel
theorem dX12_net_83 : decode cX12_net 83 = .ok (.lastore, 1) := by decide +kernel
theorem dX12_net_84 : decode cX12_net 84 = .ok (.aload_n 0, 1) := by decide +kernel
theorem dX12_net_85 : decode cX12_net 85 = .ok (.getfield 145, 3) := by decide +kernel
theorem dX12_net_88 : decode cX12_net 88 = .ok (.aload_n 0, 1) := by decide +kernel
theorem dX12_net_89 : decode cX12_net 89 = .ok (.getfield 103, 3) := by decide +kernel
theorem dX12_net_92 : decode cX12_net 92 = .ok (.aload_n 0, 1) := by decide +kernel
theorem dX12_net_93 : decode cX12_net 93 = .ok (.getfield 118, 3) := by decide +kernel
theorem dX12_net_96 : decode cX12_net 96 = .ok (.iload_n 2, 1) := by decide +kernel
theorem dX12_net_97 : decode cX12_net 97 = .ok (.iaload, 1) := by decide +kernel
theorem dX12_net_98 : decode cX12_net 98 = .ok (.iaload, 1) := by decide +kernel
theorem dX12_net_99 : decode cX12_net 99 = .ok (.dup2, 1) := by decide +kernel
theorem dX12_net_100 : decode cX12_net 100 = .ok (.laload, 1) := by decide +kernel
theorem dX12_net_101 : decode cX12_net 101 = .ok (.aload_n 0, 1) := by decide +kernel
theorem dX12_net_102 : decode cX12_net 102 = .ok (.getfield 124, 3) := by decide +kernel
theorem dX12_net_105 : decode cX12_net 105 = .ok (.iload_n 2, 1) := by decide +kernel
theorem dX12_net_106 : decode cX12_net 106 = .ok (.iaload, 1) := by decide +kernel
theorem dX12_net_107 : decode cX12_net 107 = .ok (.i2l, 1) := by decide +kernel
theorem dX12_net_108 : decode cX12_net 108 = .ok (.lsub, 1) := by decide +kernel
theorem dX12_net_109 : decode cX12_net 109 = .ok (.lastore, 1) := by decide +kernel
theorem dX12_net_110 : decode cX12_net 110 = .ok (.iinc 2 1, 3) := by decide +kernel
theorem dX12_net_113 : decode cX12_net 113 = .ok (.goto (-76), 3) := by decide +kernel
theorem dX12_net_116 : decode cX12_net 116 = .ok (.iconst 0, 1) := by decide +kernel
theorem dX12_net_117 : decode cX12_net 117 = .ok (.istore_n 2, 1) := by decide +kernel
theorem dX12_net_118 : decode cX12_net 118 = .ok (.iload_n 2, 1) := by decide +kernel
theorem dX12_net_119 : decode cX12_net 119 = .ok (.bipush 8, 2) := by decide +kernel
theorem dX12_net_121 : decode cX12_net 121 = .ok (.if_icmp .ge 21, 3) := by decide +kernel
theorem dX12_net_124 : decode cX12_net 124 = .ok (.aload_n 0, 1) := by decide +kernel
theorem dX12_net_125 : decode cX12_net 125 = .ok (.getfield 148, 3) := by decide +kernel
theorem dX12_net_128 : decode cX12_net 128 = .ok (.iload_n 2, 1) := by decide +kernel
theorem dX12_net_129 : decode cX12_net 129 = .ok (.aload_n 0, 1) := by decide +kernel
theorem dX12_net_130 : decode cX12_net 130 = .ok (.getfield 145, 3) := by decide +kernel
theorem dX12_net_133 : decode cX12_net 133 = .ok (.iload_n 2, 1) := by decide +kernel
theorem dX12_net_134 : decode cX12_net 134 = .ok (.laload, 1) := by decide +kernel
theorem dX12_net_135 : decode cX12_net 135 = .ok (.lastore, 1) := by decide +kernel
theorem dX12_net_136 : decode cX12_net 136 = .ok (.iinc 2 1, 3) := by decide +kernel
theorem dX12_net_139 : decode cX12_net 139 = .ok (.goto (-21), 3) := by decide +kernel
theorem dX12_net_142 : decode cX12_net 142 = .ok (.aload_n 0, 1) := by decide +kernel
theorem dX12_net_143 : decode cX12_net 143 = .ok (.iconst 1, 1) := by decide +kernel
theorem dX12_net_144 : decode cX12_net 144 = .ok (.putfield 426, 3) := by decide +kernel
theorem dX12_net_147 : decode cX12_net 147 = .ok (.aload_n 0, 1) := by decide +kernel
theorem dX12_net_148 : decode cX12_net 148 = .ok (.iconst 0, 1) := by decide +kernel
theorem dX12_net_149 : decode cX12_net 149 = .ok (.putfield 430, 3) := by decide +kernel
theorem dX12_net_152 : decode cX12_net 152 = .ok (.iconst 0, 1) := by decide +kernel
theorem dX12_net_153 : decode cX12_net 153 = .ok (.istore_n 2, 1) := by decide +kernel
theorem dX12_net_154 : decode cX12_net 154 = .ok (.iconst 0, 1) := by decide +kernel
theorem dX12_net_155 : decode cX12_net 155 = .ok (.istore_n 3, 1) := by decide +kernel
theorem dX12_net_156 : decode cX12_net 156 = .ok (.iload_n 2, 1) := by decide +kernel
theorem dX12_net_157 : decode cX12_net 157 = .ok (.bipush 8, 2) := by decide +kernel
theorem dX12_net_159 : decode cX12_net 159 = .ok (.if_icmp .ge 144, 3) := by decide +kernel
theorem dX12_net_162 : decode cX12_net 162 = .ok (.iload_n 3, 1) := by decide +kernel
theorem dX12_net_163 : decode cX12_net 163 = .ok (.bipush 8, 2) := by decide +kernel
theorem dX12_net_165 : decode cX12_net 165 = .ok (.if_icmp .ge 138, 3) := by decide +kernel
theorem dX12_net_168 : decode cX12_net 168 = .ok (.aload_n 0, 1) := by decide +kernel
theorem dX12_net_169 : decode cX12_net 169 = .ok (.getfield 148, 3) := by decide +kernel
theorem dX12_net_172 : decode cX12_net 172 = .ok (.iload_n 2, 1) := by decide +kernel
theorem dX12_net_173 : decode cX12_net 173 = .ok (.laload, 1) := by decide +kernel
theorem dX12_net_174 : decode cX12_net 174 = .ok (.lconst 0, 1) := by decide +kernel
theorem dX12_net_175 : decode cX12_net 175 = .ok (.lcmp, 1) := by decide +kernel
theorem dX12_net_176 : decode cX12_net 176 = .ok (.ifCond .lt 9, 3) := by decide +kernel
theorem dX12_net_179 : decode cX12_net 179 = .ok (.iinc 2 1, 3) := by decide +kernel
theorem dX12_net_182 : decode cX12_net 182 = .ok (.goto (-26), 3) := by decide +kernel
theorem dX12_net_185 : decode cX12_net 185 = .ok (.aload_n 0, 1) := by decide +kernel
theorem dX12_net_186 : decode cX12_net 186 = .ok (.getfield 148, 3) := by decide +kernel
theorem dX12_net_189 : decode cX12_net 189 = .ok (.iload_n 3, 1) := by decide +kernel
theorem dX12_net_190 : decode cX12_net 190 = .ok (.laload, 1) := by decide +kernel
theorem dX12_net_191 : decode cX12_net 191 = .ok (.lconst 0, 1) := by decide +kernel
theorem dX12_net_192 : decode cX12_net 192 = .ok (.lcmp, 1) := by decide +kernel
theorem dX12_net_193 : decode cX12_net 193 = .ok (.ifCond .gt 9, 3) := by decide +kernel
theorem dX12_net_196 : decode cX12_net 196 = .ok (.iinc 3 1, 3) := by decide +kernel
theorem dX12_net_199 : decode cX12_net 199 = .ok (.goto (-43), 3) := by decide +kernel
theorem dX12_net_202 : decode cX12_net 202 = .ok (.aload_n 0, 1) := by decide +kernel
theorem dX12_net_203 : decode cX12_net 203 = .ok (.getfield 148, 3) := by decide +kernel
theorem dX12_net_206 : decode cX12_net 206 = .ok (.iload_n 2, 1) := by decide +kernel
theorem dX12_net_207 : decode cX12_net 207 = .ok (.laload, 1) := by decide +kernel
theorem dX12_net_208 : decode cX12_net 208 = .ok (.lneg, 1) := by decide +kernel
theorem dX12_net_209 : decode cX12_net 209 = .ok (.aload_n 0, 1) := by decide +kernel
theorem dX12_net_210 : decode cX12_net 210 = .ok (.getfield 148, 3) := by decide +kernel
theorem dX12_net_213 : decode cX12_net 213 = .ok (.iload_n 3, 1) := by decide +kernel
theorem dX12_net_214 : decode cX12_net 214 = .ok (.laload, 1) := by decide +kernel
theorem dX12_net_215 : decode cX12_net 215 = .ok (.lcmp, 1) := by decide +kernel
theorem dX12_net_216 : decode cX12_net 216 = .ok (.ifCond .ge 13, 3) := by decide +kernel
theorem dX12_net_219 : decode cX12_net 219 = .ok (.aload_n 0, 1) := by decide +kernel
theorem dX12_net_220 : decode cX12_net 220 = .ok (.getfield 148, 3) := by decide +kernel
theorem dX12_net_223 : decode cX12_net 223 = .ok (.iload_n 2, 1) := by decide +kernel
theorem dX12_net_224 : decode cX12_net 224 = .ok (.laload, 1) := by decide +kernel
theorem dX12_net_225 : decode cX12_net 225 = .ok (.lneg, 1) := by decide +kernel
theorem dX12_net_226 : decode cX12_net 226 = .ok (.goto 9, 3) := by decide +kernel
theorem dX12_net_229 : decode cX12_net 229 = .ok (.aload_n 0, 1) := by decide +kernel
theorem dX12_net_230 : decode cX12_net 230 = .ok (.getfield 148, 3) := by decide +kernel
theorem dX12_net_233 : decode cX12_net 233 = .ok (.iload_n 3, 1) := by decide +kernel
theorem dX12_net_234 : decode cX12_net 234 = .ok (.laload, 1) := by decide +kernel
theorem dX12_net_235 : decode cX12_net 235 = .ok (.lstore 4, 2) := by decide +kernel
theorem dX12_net_237 : decode cX12_net 237 = .ok (.aload_n 0, 1) := by decide +kernel
theorem dX12_net_238 : decode cX12_net 238 = .ok (.getfield 136, 3) := by decide +kernel
theorem dX12_net_241 : decode cX12_net 241 = .ok (.aload_n 0, 1) := by decide +kernel
theorem dX12_net_242 : decode cX12_net 242 = .ok (.getfield 430, 3) := by decide +kernel
theorem dX12_net_245 : decode cX12_net 245 = .ok (.iload_n 2, 1) := by decide +kernel
theorem dX12_net_246 : decode cX12_net 246 = .ok (.iastore, 1) := by decide +kernel
theorem dX12_net_247 : decode cX12_net 247 = .ok (.aload_n 0, 1) := by decide +kernel
theorem dX12_net_248 : decode cX12_net 248 = .ok (.getfield 139, 3) := by decide +kernel
theorem dX12_net_251 : decode cX12_net 251 = .ok (.aload_n 0, 1) := by decide +kernel
theorem dX12_net_252 : decode cX12_net 252 = .ok (.getfield 430, 3) := by decide +kernel
theorem dX12_net_255 : decode cX12_net 255 = .ok (.iload_n 3, 1) := by decide +kernel
theorem dX12_net_256 : decode cX12_net 256 = .ok (.iastore, 1) := by decide +kernel
theorem dX12_net_257 : decode cX12_net 257 = .ok (.aload_n 0, 1) := by decide +kernel
theorem dX12_net_258 : decode cX12_net 258 = .ok (.getfield 142, 3) := by decide +kernel
theorem dX12_net_261 : decode cX12_net 261 = .ok (.aload_n 0, 1) := by decide +kernel
theorem dX12_net_262 : decode cX12_net 262 = .ok (.getfield 430, 3) := by decide +kernel
theorem dX12_net_265 : decode cX12_net 265 = .ok (.lload 4, 2) := by decide +kernel
theorem dX12_net_267 : decode cX12_net 267 = .ok (.lastore, 1) := by decide +kernel
theorem dX12_net_268 : decode cX12_net 268 = .ok (.aload_n 0, 1) := by decide +kernel
theorem dX12_net_269 : decode cX12_net 269 = .ok (.getfield 148, 3) := by decide +kernel
theorem dX12_net_272 : decode cX12_net 272 = .ok (.iload_n 2, 1) := by decide +kernel
theorem dX12_net_273 : decode cX12_net 273 = .ok (.dup2, 1) := by decide +kernel
theorem dX12_net_274 : decode cX12_net 274 = .ok (.laload, 1) := by decide +kernel
theorem dX12_net_275 : decode cX12_net 275 = .ok (.lload 4, 2) := by decide +kernel
theorem dX12_net_277 : decode cX12_net 277 = .ok (.ladd, 1) := by decide +kernel
theorem dX12_net_278 : decode cX12_net 278 = .ok (.lastore, 1) := by decide +kernel
theorem dX12_net_279 : decode cX12_net 279 = .ok (.aload_n 0, 1) := by decide +kernel
theorem dX12_net_280 : decode cX12_net 280 = .ok (.getfield 148, 3) := by decide +kernel
theorem dX12_net_283 : decode cX12_net 283 = .ok (.iload_n 3, 1) := by decide +kernel
theorem dX12_net_284 : decode cX12_net 284 = .ok (.dup2, 1) := by decide +kernel
theorem dX12_net_285 : decode cX12_net 285 = .ok (.laload, 1) := by decide +kernel
theorem dX12_net_286 : decode cX12_net 286 = .ok (.lload 4, 2) := by decide +kernel
theorem dX12_net_288 : decode cX12_net 288 = .ok (.lsub, 1) := by decide +kernel
theorem dX12_net_289 : decode cX12_net 289 = .ok (.lastore, 1) := by decide +kernel
theorem dX12_net_290 : decode cX12_net 290 = .ok (.aload_n 0, 1) := by decide +kernel
theorem dX12_net_291 : decode cX12_net 291 = .ok (.dup, 1) := by decide +kernel
theorem dX12_net_292 : decode cX12_net 292 = .ok (.getfield 430, 3) := by decide +kernel
theorem dX12_net_295 : decode cX12_net 295 = .ok (.iconst 1, 1) := by decide +kernel
theorem dX12_net_296 : decode cX12_net 296 = .ok (.iadd, 1) := by decide +kernel
theorem dX12_net_297 : decode cX12_net 297 = .ok (.putfield 430, 3) := by decide +kernel
theorem dX12_net_300 : decode cX12_net 300 = .ok (.goto (-144), 3) := by decide +kernel
theorem dX12_net_303 : decode cX12_net 303 = .ok (.aload_n 0, 1) := by decide +kernel
theorem dX12_net_304 : decode cX12_net 304 = .ok (.getfield 430, 3) := by decide +kernel
theorem dX12_net_307 : decode cX12_net 307 = .ok (.ireturn, 1) := by decide +kernel
theorem dX12_netted_0 : decode cX12_netted 0 = .ok (.aload_n 0, 1) := by decide +kernel
theorem dX12_netted_1 : decode cX12_netted 1 = .ok (.getfield 426, 3) := by decide +kernel
theorem dX12_netted_4 : decode cX12_netted 4 = .ok (.ifCond .ne 7, 3) := by decide +kernel
theorem dX12_netted_7 : decode cX12_netted 7 = .ok (.ldc2_w 433, 3) := by decide +kernel
theorem dX12_netted_10 : decode cX12_netted 10 = .ok (.lreturn, 1) := by decide +kernel
theorem dX12_netted_11 : decode cX12_netted 11 = .ok (.iload_n 2, 1) := by decide +kernel
theorem dX12_netted_12 : decode cX12_netted 12 = .ok (.i2l, 1) := by decide +kernel
theorem dX12_netted_13 : decode cX12_netted 13 = .ok (.ldc2_w 435, 3) := by decide +kernel
theorem dX12_netted_16 : decode cX12_netted 16 = .ok (.ldc2_w 437, 3) := by decide +kernel
theorem dX12_netted_19 : decode cX12_netted 19 = .ok (.invokestatic 245, 3) := by decide +kernel
theorem dX12_netted_22 : decode cX12_netted 22 = .ok (.ifCond .eq 13, 3) := by decide +kernel
theorem dX12_netted_25 : decode cX12_netted 25 = .ok (.aload_n 0, 1) := by decide +kernel
theorem dX12_netted_26 : decode cX12_netted 26 = .ok (.getfield 145, 3) := by decide +kernel
theorem dX12_netted_29 : decode cX12_netted 29 = .ok (.iload_n 2, 1) := by decide +kernel
theorem dX12_netted_30 : decode cX12_netted 30 = .ok (.bipush 10, 2) := by decide +kernel
theorem dX12_netted_32 : decode cX12_netted 32 = .ok (.isub, 1) := by decide +kernel
theorem dX12_netted_33 : decode cX12_netted 33 = .ok (.laload, 1) := by decide +kernel
theorem dX12_netted_34 : decode cX12_netted 34 = .ok (.lreturn, 1) := by decide +kernel
theorem dX12_netted_35 : decode cX12_netted 35 = .ok (.iload_n 1, 1) := by decide +kernel
theorem dX12_netted_36 : decode cX12_netted 36 = .ok (.i2l, 1) := by decide +kernel
theorem dX12_netted_37 : decode cX12_netted 37 = .ok (.lconst 0, 1) := by decide +kernel
theorem dX12_netted_38 : decode cX12_netted 38 = .ok (.aload_n 0, 1) := by decide +kernel
theorem dX12_netted_39 : decode cX12_netted 39 = .ok (.getfield 430, 3) := by decide +kernel
theorem dX12_netted_42 : decode cX12_netted 42 = .ok (.iconst 1, 1) := by decide +kernel
theorem dX12_netted_43 : decode cX12_netted 43 = .ok (.isub, 1) := by decide +kernel
theorem dX12_netted_44 : decode cX12_netted 44 = .ok (.i2l, 1) := by decide +kernel
theorem dX12_netted_45 : decode cX12_netted 45 = .ok (.invokestatic 245, 3) := by decide +kernel
theorem dX12_netted_48 : decode cX12_netted 48 = .ok (.ifCond .ne 7, 3) := by decide +kernel
theorem dX12_netted_51 : decode cX12_netted 51 = .ok (.ldc2_w 433, 3) := by decide +kernel
theorem dX12_netted_54 : decode cX12_netted 54 = .ok (.lreturn, 1) := by decide +kernel
theorem dX12_netted_55 : decode cX12_netted 55 = .ok (.iload_n 2, 1) := by decide +kernel
theorem dX12_netted_56 : decode cX12_netted 56 = .ok (.ifCond .ne 13, 3) := by decide +kernel
theorem dX12_netted_59 : decode cX12_netted 59 = .ok (.aload_n 0, 1) := by decide +kernel
theorem dX12_netted_60 : decode cX12_netted 60 = .ok (.getfield 136, 3) := by decide +kernel
theorem dX12_netted_63 : decode cX12_netted 63 = .ok (.iload_n 1, 1) := by decide +kernel
theorem dX12_netted_64 : decode cX12_netted 64 = .ok (.iaload, 1) := by decide +kernel
theorem dX12_netted_65 : decode cX12_netted 65 = .ok (.i2l, 1) := by decide +kernel
theorem dX12_netted_66 : decode cX12_netted 66 = .ok (.goto 35, 3) := by decide +kernel
theorem dX12_netted_69 : decode cX12_netted 69 = .ok (.iload_n 2, 1) := by decide +kernel
theorem dX12_netted_70 : decode cX12_netted 70 = .ok (.iconst 1, 1) := by decide +kernel
theorem dX12_netted_71 : decode cX12_netted 71 = .ok (.if_icmp .ne 13, 3) := by decide +kernel
theorem dX12_netted_74 : decode cX12_netted 74 = .ok (.aload_n 0, 1) := by decide +kernel
theorem dX12_netted_75 : decode cX12_netted 75 = .ok (.getfield 139, 3) := by decide +kernel
theorem dX12_netted_78 : decode cX12_netted 78 = .ok (.iload_n 1, 1) := by decide +kernel
theorem dX12_netted_79 : decode cX12_netted 79 = .ok (.iaload, 1) := by decide +kernel
theorem dX12_netted_80 : decode cX12_netted 80 = .ok (.i2l, 1) := by decide +kernel
theorem dX12_netted_81 : decode cX12_netted 81 = .ok (.goto 20, 3) := by decide +kernel
theorem dX12_netted_84 : decode cX12_netted 84 = .ok (.iload_n 2, 1) := by decide +kernel
theorem dX12_netted_85 : decode cX12_netted 85 = .ok (.iconst 2, 1) := by decide +kernel
theorem dX12_netted_86 : decode cX12_netted 86 = .ok (.if_icmp .ne 12, 3) := by decide +kernel
theorem dX12_netted_89 : decode cX12_netted 89 = .ok (.aload_n 0, 1) := by decide +kernel
theorem dX12_netted_90 : decode cX12_netted 90 = .ok (.getfield 142, 3) := by decide +kernel
theorem dX12_netted_93 : decode cX12_netted 93 = .ok (.iload_n 1, 1) := by decide +kernel
theorem dX12_netted_94 : decode cX12_netted 94 = .ok (.laload, 1) := by decide +kernel
theorem dX12_netted_95 : decode cX12_netted 95 = .ok (.goto 6, 3) := by decide +kernel
theorem dX12_netted_98 : decode cX12_netted 98 = .ok (.ldc2_w 433, 3) := by decide +kernel
theorem dX12_netted_101 : decode cX12_netted 101 = .ok (.lreturn, 1) := by decide +kernel
theorem dX12_ways_0 : decode cX12_ways 0 = .ok (.iload_n 1, 1) := by decide +kernel
theorem dX12_ways_1 : decode cX12_ways 1 = .ok (.i2l, 1) := by decide +kernel
theorem dX12_ways_2 : decode cX12_ways 2 = .ok (.lconst 1, 1) := by decide +kernel
theorem dX12_ways_3 : decode cX12_ways 3 = .ok (.ldc2_w 439, 3) := by decide +kernel
theorem dX12_ways_6 : decode cX12_ways 6 = .ok (.invokestatic 245, 3) := by decide +kernel
theorem dX12_ways_9 : decode cX12_ways 9 = .ok (.ifCond .ne 5, 3) := by decide +kernel
theorem dX12_ways_12 : decode cX12_ways 12 = .ok (.iconst 0, 1) := by decide +kernel
theorem dX12_ways_13 : decode cX12_ways 13 = .ok (.ireturn, 1) := by decide +kernel
theorem dX12_ways_14 : decode cX12_ways 14 = .ok (.aload_n 0, 1) := by decide +kernel
theorem dX12_ways_15 : decode cX12_ways 15 = .ok (.iload_n 1, 1) := by decide +kernel
theorem dX12_ways_16 : decode cX12_ways 16 = .ok (.putfield 151, 3) := by decide +kernel
theorem dX12_ways_19 : decode cX12_ways 19 = .ok (.iconst 0, 1) := by decide +kernel
theorem dX12_ways_20 : decode cX12_ways 20 = .ok (.istore_n 2, 1) := by decide +kernel
theorem dX12_ways_21 : decode cX12_ways 21 = .ok (.iload_n 2, 1) := by decide +kernel
theorem dX12_ways_22 : decode cX12_ways 22 = .ok (.iconst 3, 1) := by decide +kernel
theorem dX12_ways_23 : decode cX12_ways 23 = .ok (.if_icmp .ge 16, 3) := by decide +kernel
theorem dX12_ways_26 : decode cX12_ways 26 = .ok (.aload_n 0, 1) := by decide +kernel
theorem dX12_ways_27 : decode cX12_ways 27 = .ok (.getfield 155, 3) := by decide +kernel
theorem dX12_ways_30 : decode cX12_ways 30 = .ok (.iload_n 2, 1) := by decide +kernel
theorem dX12_ways_31 : decode cX12_ways 31 = .ok (.iconst 1, 1) := by decide +kernel
theorem dX12_ways_32 : decode cX12_ways 32 = .ok (.iastore, 1) := by decide +kernel
theorem dX12_ways_33 : decode cX12_ways 33 = .ok (.iinc 2 1, 3) := by decide +kernel
theorem dX12_ways_36 : decode cX12_ways 36 = .ok (.goto (-15), 3) := by decide +kernel
theorem dX12_ways_39 : decode cX12_ways 39 = .ok (.iconst 0, 1) := by decide +kernel
theorem dX12_ways_40 : decode cX12_ways 40 = .ok (.istore_n 2, 1) := by decide +kernel
theorem dX12_ways_41 : decode cX12_ways 41 = .ok (.iload_n 2, 1) := by decide +kernel
theorem dX12_ways_42 : decode cX12_ways 42 = .ok (.bipush 18, 2) := by decide +kernel
theorem dX12_ways_44 : decode cX12_ways 44 = .ok (.if_icmp .ge 16, 3) := by decide +kernel
theorem dX12_ways_47 : decode cX12_ways 47 = .ok (.aload_n 0, 1) := by decide +kernel
theorem dX12_ways_48 : decode cX12_ways 48 = .ok (.getfield 158, 3) := by decide +kernel
theorem dX12_ways_51 : decode cX12_ways 51 = .ok (.iload_n 2, 1) := by decide +kernel
theorem dX12_ways_52 : decode cX12_ways 52 = .ok (.iconst 0, 1) := by decide +kernel
theorem dX12_ways_53 : decode cX12_ways 53 = .ok (.iastore, 1) := by decide +kernel
theorem dX12_ways_54 : decode cX12_ways 54 = .ok (.iinc 2 1, 3) := by decide +kernel
theorem dX12_ways_57 : decode cX12_ways 57 = .ok (.goto (-16), 3) := by decide +kernel
theorem dX12_ways_60 : decode cX12_ways 60 = .ok (.iconst 1, 1) := by decide +kernel
theorem dX12_ways_61 : decode cX12_ways 61 = .ok (.ireturn, 1) := by decide +kernel
theorem dX12_weight_0 : decode cX12_weight 0 = .ok (.iload_n 1, 1) := by decide +kernel
theorem dX12_weight_1 : decode cX12_weight 1 = .ok (.i2l, 1) := by decide +kernel
theorem dX12_weight_2 : decode cX12_weight 2 = .ok (.lconst 0, 1) := by decide +kernel
theorem dX12_weight_3 : decode cX12_weight 3 = .ok (.aload_n 0, 1) := by decide +kernel
theorem dX12_weight_4 : decode cX12_weight 4 = .ok (.getfield 151, 3) := by decide +kernel
theorem dX12_weight_7 : decode cX12_weight 7 = .ok (.iconst 1, 1) := by decide +kernel
theorem dX12_weight_8 : decode cX12_weight 8 = .ok (.isub, 1) := by decide +kernel
theorem dX12_weight_9 : decode cX12_weight 9 = .ok (.i2l, 1) := by decide +kernel
theorem dX12_weight_10 : decode cX12_weight 10 = .ok (.invokestatic 245, 3) := by decide +kernel
theorem dX12_weight_13 : decode cX12_weight 13 = .ok (.ifCond .eq 15, 3) := by decide +kernel
theorem dX12_weight_16 : decode cX12_weight 16 = .ok (.iload_n 2, 1) := by decide +kernel
theorem dX12_weight_17 : decode cX12_weight 17 = .ok (.i2l, 1) := by decide +kernel
theorem dX12_weight_18 : decode cX12_weight 18 = .ok (.lconst 1, 1) := by decide +kernel
theorem dX12_weight_19 : decode cX12_weight 19 = .ok (.ldc2_w 441, 3) := by decide +kernel
theorem dX12_weight_22 : decode cX12_weight 22 = .ok (.invokestatic 245, 3) := by decide +kernel
theorem dX12_weight_25 : decode cX12_weight 25 = .ok (.ifCond .ne 5, 3) := by decide +kernel
theorem dX12_weight_28 : decode cX12_weight 28 = .ok (.iconst 0, 1) := by decide +kernel
theorem dX12_weight_29 : decode cX12_weight 29 = .ok (.ireturn, 1) := by decide +kernel
theorem dX12_weight_30 : decode cX12_weight 30 = .ok (.aload_n 0, 1) := by decide +kernel
theorem dX12_weight_31 : decode cX12_weight 31 = .ok (.getfield 155, 3) := by decide +kernel
theorem dX12_weight_34 : decode cX12_weight 34 = .ok (.iload_n 1, 1) := by decide +kernel
theorem dX12_weight_35 : decode cX12_weight 35 = .ok (.iload_n 2, 1) := by decide +kernel
theorem dX12_weight_36 : decode cX12_weight 36 = .ok (.iastore, 1) := by decide +kernel
theorem dX12_weight_37 : decode cX12_weight 37 = .ok (.iconst 1, 1) := by decide +kernel
theorem dX12_weight_38 : decode cX12_weight 38 = .ok (.ireturn, 1) := by decide +kernel
theorem dX12_adds_0 : decode cX12_adds 0 = .ok (.iload_n 1, 1) := by decide +kernel
theorem dX12_adds_1 : decode cX12_adds 1 = .ok (.i2l, 1) := by decide +kernel
theorem dX12_adds_2 : decode cX12_adds 2 = .ok (.lconst 0, 1) := by decide +kernel
theorem dX12_adds_3 : decode cX12_adds 3 = .ok (.aload_n 0, 1) := by decide +kernel
theorem dX12_adds_4 : decode cX12_adds 4 = .ok (.getfield 151, 3) := by decide +kernel
theorem dX12_adds_7 : decode cX12_adds 7 = .ok (.iconst 1, 1) := by decide +kernel
theorem dX12_adds_8 : decode cX12_adds 8 = .ok (.isub, 1) := by decide +kernel
theorem dX12_adds_9 : decode cX12_adds 9 = .ok (.i2l, 1) := by decide +kernel
theorem dX12_adds_10 : decode cX12_adds 10 = .ok (.invokestatic 245, 3) := by decide +kernel
theorem dX12_adds_13 : decode cX12_adds 13 = .ok (.ifCond .eq 29, 3) := by decide +kernel
theorem dX12_adds_16 : decode cX12_adds 16 = .ok (.iload_n 2, 1) := by decide +kernel
theorem dX12_adds_17 : decode cX12_adds 17 = .ok (.i2l, 1) := by decide +kernel
theorem dX12_adds_18 : decode cX12_adds 18 = .ok (.lconst 0, 1) := by decide +kernel
theorem dX12_adds_19 : decode cX12_adds 19 = .ok (.ldc2_w 243, 3) := by decide +kernel
theorem dX12_adds_22 : decode cX12_adds 22 = .ok (.invokestatic 245, 3) := by decide +kernel
theorem dX12_adds_25 : decode cX12_adds 25 = .ok (.ifCond .eq 17, 3) := by decide +kernel
theorem dX12_adds_28 : decode cX12_adds 28 = .ok (.iload_n 3, 1) := by decide +kernel
theorem dX12_adds_29 : decode cX12_adds 29 = .ok (.i2l, 1) := by decide +kernel
theorem dX12_adds_30 : decode cX12_adds 30 = .ok (.ldc2_w 443, 3) := by decide +kernel
theorem dX12_adds_33 : decode cX12_adds 33 = .ok (.ldc2_w 445, 3) := by decide +kernel
theorem dX12_adds_36 : decode cX12_adds 36 = .ok (.invokestatic 245, 3) := by decide +kernel
theorem dX12_adds_39 : decode cX12_adds 39 = .ok (.ifCond .ne 5, 3) := by decide +kernel
theorem dX12_adds_42 : decode cX12_adds 42 = .ok (.iconst 0, 1) := by decide +kernel
theorem dX12_adds_43 : decode cX12_adds 43 = .ok (.ireturn, 1) := by decide +kernel
theorem dX12_adds_44 : decode cX12_adds 44 = .ok (.aload_n 0, 1) := by decide +kernel
theorem dX12_adds_45 : decode cX12_adds 45 = .ok (.getfield 158, 3) := by decide +kernel
theorem dX12_adds_48 : decode cX12_adds 48 = .ok (.bipush 6, 2) := by decide +kernel
theorem dX12_adds_50 : decode cX12_adds 50 = .ok (.iload_n 1, 1) := by decide +kernel
theorem dX12_adds_51 : decode cX12_adds 51 = .ok (.imul, 1) := by decide +kernel
theorem dX12_adds_52 : decode cX12_adds 52 = .ok (.iload_n 2, 1) := by decide +kernel
theorem dX12_adds_53 : decode cX12_adds 53 = .ok (.iadd, 1) := by decide +kernel
theorem dX12_adds_54 : decode cX12_adds 54 = .ok (.iload_n 3, 1) := by decide +kernel
theorem dX12_adds_55 : decode cX12_adds 55 = .ok (.iastore, 1) := by decide +kernel
theorem dX12_adds_56 : decode cX12_adds 56 = .ok (.iconst 1, 1) := by decide +kernel
theorem dX12_adds_57 : decode cX12_adds 57 = .ok (.ireturn, 1) := by decide +kernel
theorem dX12_worth_0 : decode cX12_worth 0 = .ok (.aload_n 0, 1) := by decide +kernel
theorem dX12_worth_1 : decode cX12_worth 1 = .ok (.iload_n 1, 1) := by decide +kernel
theorem dX12_worth_2 : decode cX12_worth 2 = .ok (.invokevirtual 337, 3) := by decide +kernel
theorem dX12_worth_5 : decode cX12_worth 5 = .ok (.ifCond .eq 27, 3) := by decide +kernel
theorem dX12_worth_8 : decode cX12_worth 8 = .ok (.iload_n 2, 1) := by decide +kernel
theorem dX12_worth_9 : decode cX12_worth 9 = .ok (.i2l, 1) := by decide +kernel
theorem dX12_worth_10 : decode cX12_worth 10 = .ok (.lconst 1, 1) := by decide +kernel
theorem dX12_worth_11 : decode cX12_worth 11 = .ok (.ldc2_w 441, 3) := by decide +kernel
theorem dX12_worth_14 : decode cX12_worth 14 = .ok (.invokestatic 245, 3) := by decide +kernel
theorem dX12_worth_17 : decode cX12_worth 17 = .ok (.ifCond .eq 15, 3) := by decide +kernel
theorem dX12_worth_20 : decode cX12_worth 20 = .ok (.iload_n 3, 1) := by decide +kernel
theorem dX12_worth_21 : decode cX12_worth 21 = .ok (.i2l, 1) := by decide +kernel
theorem dX12_worth_22 : decode cX12_worth 22 = .ok (.lconst 0, 1) := by decide +kernel
theorem dX12_worth_23 : decode cX12_worth 23 = .ok (.ldc2_w 439, 3) := by decide +kernel
theorem dX12_worth_26 : decode cX12_worth 26 = .ok (.invokestatic 245, 3) := by decide +kernel
theorem dX12_worth_29 : decode cX12_worth 29 = .ok (.ifCond .ne 7, 3) := by decide +kernel
theorem dX12_worth_32 : decode cX12_worth 32 = .ok (.ldc2_w 477, 3) := by decide +kernel
theorem dX12_worth_35 : decode cX12_worth 35 = .ok (.lreturn, 1) := by decide +kernel
theorem dX12_worth_36 : decode cX12_worth 36 = .ok (.iload_n 3, 1) := by decide +kernel
theorem dX12_worth_37 : decode cX12_worth 37 = .ok (.iconst 3, 1) := by decide +kernel
theorem dX12_worth_38 : decode cX12_worth 38 = .ok (.if_icmp .ne 13, 3) := by decide +kernel
theorem dX12_worth_41 : decode cX12_worth 41 = .ok (.aload_n 0, 1) := by decide +kernel
theorem dX12_worth_42 : decode cX12_worth 42 = .ok (.invokevirtual 460, 3) := by decide +kernel
theorem dX12_worth_45 : decode cX12_worth 45 = .ok (.iload_n 2, 1) := by decide +kernel
theorem dX12_worth_46 : decode cX12_worth 46 = .ok (.invokestatic 463, 3) := by decide +kernel
theorem dX12_worth_49 : decode cX12_worth 49 = .ok (.i2l, 1) := by decide +kernel
theorem dX12_worth_50 : decode cX12_worth 50 = .ok (.lreturn, 1) := by decide +kernel
theorem dX12_worth_51 : decode cX12_worth 51 = .ok (.aload_n 0, 1) := by decide +kernel
theorem dX12_worth_52 : decode cX12_worth 52 = .ok (.invokevirtual 479, 3) := by decide +kernel
theorem dX12_worth_55 : decode cX12_worth 55 = .ok (.aload_n 0, 1) := by decide +kernel
theorem dX12_worth_56 : decode cX12_worth 56 = .ok (.iconst 0, 1) := by decide +kernel
theorem dX12_worth_57 : decode cX12_worth 57 = .ok (.putfield 447, 3) := by decide +kernel
theorem dX12_worth_60 : decode cX12_worth 60 = .ok (.aload_n 0, 1) := by decide +kernel
theorem dX12_worth_61 : decode cX12_worth 61 = .ok (.bipush 40, 2) := by decide +kernel
theorem dX12_worth_63 : decode cX12_worth 63 = .ok (.iload_n 1, 1) := by decide +kernel
theorem dX12_worth_64 : decode cX12_worth 64 = .ok (.imul, 1) := by decide +kernel
theorem dX12_worth_65 : decode cX12_worth 65 = .ok (.iconst 0, 1) := by decide +kernel
theorem dX12_worth_66 : decode cX12_worth 66 = .ok (.iconst 0, 1) := by decide +kernel
theorem dX12_worth_67 : decode cX12_worth 67 = .ok (.lconst 1, 1) := by decide +kernel
theorem dX12_worth_68 : decode cX12_worth 68 = .ok (.invokevirtual 466, 3) := by decide +kernel
theorem dX12_worth_71 : decode cX12_worth 71 = .ok (.aload_n 0, 1) := by decide +kernel
theorem dX12_worth_72 : decode cX12_worth 72 = .ok (.getfield 447, 3) := by decide +kernel
theorem dX12_worth_75 : decode cX12_worth 75 = .ok (.ifCond .le 43, 3) := by decide +kernel
theorem dX12_worth_78 : decode cX12_worth 78 = .ok (.aload_n 0, 1) := by decide +kernel
theorem dX12_worth_79 : decode cX12_worth 79 = .ok (.getfield 447, 3) := by decide +kernel
theorem dX12_worth_82 : decode cX12_worth 82 = .ok (.iconst 1, 1) := by decide +kernel
theorem dX12_worth_83 : decode cX12_worth 83 = .ok (.isub, 1) := by decide +kernel
theorem dX12_worth_84 : decode cX12_worth 84 = .ok (.istore 4, 2) := by decide +kernel
theorem dX12_worth_86 : decode cX12_worth 86 = .ok (.aload_n 0, 1) := by decide +kernel
theorem dX12_worth_87 : decode cX12_worth 87 = .ok (.getfield 176, 3) := by decide +kernel
theorem dX12_worth_90 : decode cX12_worth 90 = .ok (.iload 4, 2) := by decide +kernel
theorem dX12_worth_92 : decode cX12_worth 92 = .ok (.iaload, 1) := by decide +kernel
theorem dX12_worth_93 : decode cX12_worth 93 = .ok (.ifCond .ne 14, 3) := by decide +kernel
theorem dX12_worth_96 : decode cX12_worth 96 = .ok (.aload_n 0, 1) := by decide +kernel
theorem dX12_worth_97 : decode cX12_worth 97 = .ok (.iload 4, 2) := by decide +kernel
theorem dX12_worth_99 : decode cX12_worth 99 = .ok (.iload_n 2, 1) := by decide +kernel
theorem dX12_worth_100 : decode cX12_worth 100 = .ok (.iload_n 3, 1) := by decide +kernel
theorem dX12_worth_101 : decode cX12_worth 101 = .ok (.invokevirtual 482, 3) := by decide +kernel
theorem dX12_worth_104 : decode cX12_worth 104 = .ok (.goto 11, 3) := by decide +kernel
theorem dX12_worth_107 : decode cX12_worth 107 = .ok (.aload_n 0, 1) := by decide +kernel
theorem dX12_worth_108 : decode cX12_worth 108 = .ok (.iload 4, 2) := by decide +kernel
theorem dX12_worth_110 : decode cX12_worth 110 = .ok (.iload_n 2, 1) := by decide +kernel
theorem dX12_worth_111 : decode cX12_worth 111 = .ok (.iload_n 3, 1) := by decide +kernel
theorem dX12_worth_112 : decode cX12_worth 112 = .ok (.invokevirtual 486, 3) := by decide +kernel
theorem dX12_worth_115 : decode cX12_worth 115 = .ok (.goto (-44), 3) := by decide +kernel
theorem dX12_worth_118 : decode cX12_worth 118 = .ok (.aload_n 0, 1) := by decide +kernel
theorem dX12_worth_119 : decode cX12_worth 119 = .ok (.getfield 450, 3) := by decide +kernel
theorem dX12_worth_122 : decode cX12_worth 122 = .ok (.lreturn, 1) := by decide +kernel
theorem dX12_comeTo_0 : decode cX12_comeTo 0 = .ok (.aload_n 0, 1) := by decide +kernel
theorem dX12_comeTo_1 : decode cX12_comeTo 1 = .ok (.iload_n 1, 1) := by decide +kernel
theorem dX12_comeTo_2 : decode cX12_comeTo 2 = .ok (.invokevirtual 337, 3) := by decide +kernel
theorem dX12_comeTo_5 : decode cX12_comeTo 5 = .ok (.ifCond .eq 33, 3) := by decide +kernel
theorem dX12_comeTo_8 : decode cX12_comeTo 8 = .ok (.iload_n 2, 1) := by decide +kernel
theorem dX12_comeTo_9 : decode cX12_comeTo 9 = .ok (.i2l, 1) := by decide +kernel
theorem dX12_comeTo_10 : decode cX12_comeTo 10 = .ok (.lconst 1, 1) := by decide +kernel
theorem dX12_comeTo_11 : decode cX12_comeTo 11 = .ok (.ldc2_w 441, 3) := by decide +kernel
theorem dX12_comeTo_14 : decode cX12_comeTo 14 = .ok (.invokestatic 245, 3) := by decide +kernel
theorem dX12_comeTo_17 : decode cX12_comeTo 17 = .ok (.ifCond .eq 21, 3) := by decide +kernel
theorem dX12_comeTo_20 : decode cX12_comeTo 20 = .ok (.iload_n 3, 1) := by decide +kernel
theorem dX12_comeTo_21 : decode cX12_comeTo 21 = .ok (.i2l, 1) := by decide +kernel
theorem dX12_comeTo_22 : decode cX12_comeTo 22 = .ok (.lconst 0, 1) := by decide +kernel
theorem dX12_comeTo_23 : decode cX12_comeTo 23 = .ok (.aload_n 0, 1) := by decide +kernel
theorem dX12_comeTo_24 : decode cX12_comeTo 24 = .ok (.getfield 17, 3) := by decide +kernel
theorem dX12_comeTo_27 : decode cX12_comeTo 27 = .ok (.iload_n 1, 1) := by decide +kernel
theorem dX12_comeTo_28 : decode cX12_comeTo 28 = .ok (.iaload, 1) := by decide +kernel
theorem dX12_comeTo_29 : decode cX12_comeTo 29 = .ok (.iconst 1, 1) := by decide +kernel
theorem dX12_comeTo_30 : decode cX12_comeTo 30 = .ok (.isub, 1) := by decide +kernel
theorem dX12_comeTo_31 : decode cX12_comeTo 31 = .ok (.i2l, 1) := by decide +kernel
theorem dX12_comeTo_32 : decode cX12_comeTo 32 = .ok (.invokestatic 245, 3) := by decide +kernel
theorem dX12_comeTo_35 : decode cX12_comeTo 35 = .ok (.ifCond .ne 5, 3) := by decide +kernel
theorem dX12_comeTo_38 : decode cX12_comeTo 38 = .ok (.iconst (-1), 1) := by decide +kernel
theorem dX12_comeTo_39 : decode cX12_comeTo 39 = .ok (.ireturn, 1) := by decide +kernel
theorem dX12_comeTo_40 : decode cX12_comeTo 40 = .ok (.bipush 40, 2) := by decide +kernel
theorem dX12_comeTo_42 : decode cX12_comeTo 42 = .ok (.iload_n 1, 1) := by decide +kernel
theorem dX12_comeTo_43 : decode cX12_comeTo 43 = .ok (.imul, 1) := by decide +kernel
theorem dX12_comeTo_44 : decode cX12_comeTo 44 = .ok (.iload_n 3, 1) := by decide +kernel
theorem dX12_comeTo_45 : decode cX12_comeTo 45 = .ok (.iadd, 1) := by decide +kernel
theorem dX12_comeTo_46 : decode cX12_comeTo 46 = .ok (.istore 4, 2) := by decide +kernel
theorem dX12_comeTo_48 : decode cX12_comeTo 48 = .ok (.aload_n 0, 1) := by decide +kernel
theorem dX12_comeTo_49 : decode cX12_comeTo 49 = .ok (.getfield 26, 3) := by decide +kernel
theorem dX12_comeTo_52 : decode cX12_comeTo 52 = .ok (.iload 4, 2) := by decide +kernel
theorem dX12_comeTo_54 : decode cX12_comeTo 54 = .ok (.iaload, 1) := by decide +kernel
theorem dX12_comeTo_55 : decode cX12_comeTo 55 = .ok (.istore 5, 2) := by decide +kernel
theorem dX12_comeTo_57 : decode cX12_comeTo 57 = .ok (.iload 5, 2) := by decide +kernel
theorem dX12_comeTo_59 : decode cX12_comeTo 59 = .ok (.istore 6, 2) := by decide +kernel
theorem dX12_comeTo_61 : decode cX12_comeTo 61 = .ok (.iload 6, 2) := by decide +kernel
theorem dX12_comeTo_63 : decode cX12_comeTo 63 = .ok (.ifCond .lt 27, 3) := by decide +kernel
theorem dX12_comeTo_66 : decode cX12_comeTo 66 = .ok (.aload_n 0, 1) := by decide +kernel
theorem dX12_comeTo_67 : decode cX12_comeTo 67 = .ok (.getfield 192, 3) := by decide +kernel
theorem dX12_comeTo_70 : decode cX12_comeTo 70 = .ok (.iload 6, 2) := by decide +kernel
theorem dX12_comeTo_72 : decode cX12_comeTo 72 = .ok (.iload 4, 2) := by decide +kernel
theorem dX12_comeTo_74 : decode cX12_comeTo 74 = .ok (.iastore, 1) := by decide +kernel
theorem dX12_comeTo_75 : decode cX12_comeTo 75 = .ok (.aload_n 0, 1) := by decide +kernel
theorem dX12_comeTo_76 : decode cX12_comeTo 76 = .ok (.getfield 29, 3) := by decide +kernel
theorem dX12_comeTo_79 : decode cX12_comeTo 79 = .ok (.iload 4, 2) := by decide +kernel
theorem dX12_comeTo_81 : decode cX12_comeTo 81 = .ok (.iaload, 1) := by decide +kernel
theorem dX12_comeTo_82 : decode cX12_comeTo 82 = .ok (.istore 4, 2) := by decide +kernel
theorem dX12_comeTo_84 : decode cX12_comeTo 84 = .ok (.iinc 6 (-1), 3) := by decide +kernel
theorem dX12_comeTo_87 : decode cX12_comeTo 87 = .ok (.goto (-26), 3) := by decide +kernel
theorem dX12_comeTo_90 : decode cX12_comeTo 90 = .ok (.iconst 0, 1) := by decide +kernel
theorem dX12_comeTo_91 : decode cX12_comeTo 91 = .ok (.istore 6, 2) := by decide +kernel
theorem dX12_comeTo_93 : decode cX12_comeTo 93 = .ok (.iload 6, 2) := by decide +kernel
theorem dX12_comeTo_95 : decode cX12_comeTo 95 = .ok (.sipush 5265, 3) := by decide +kernel
theorem dX12_comeTo_98 : decode cX12_comeTo 98 = .ok (.if_icmp .ge 17, 3) := by decide +kernel
theorem dX12_comeTo_101 : decode cX12_comeTo 101 = .ok (.aload_n 0, 1) := by decide +kernel
theorem dX12_comeTo_102 : decode cX12_comeTo 102 = .ok (.getfield 195, 3) := by decide +kernel
theorem dX12_comeTo_105 : decode cX12_comeTo 105 = .ok (.iload 6, 2) := by decide +kernel
theorem dX12_comeTo_107 : decode cX12_comeTo 107 = .ok (.iconst 0, 1) := by decide +kernel
theorem dX12_comeTo_108 : decode cX12_comeTo 108 = .ok (.bastore, 1) := by decide +kernel
theorem dX12_comeTo_109 : decode cX12_comeTo 109 = .ok (.iinc 6 1, 3) := by decide +kernel
theorem dX12_comeTo_112 : decode cX12_comeTo 112 = .ok (.goto (-19), 3) := by decide +kernel
theorem dX12_comeTo_115 : decode cX12_comeTo 115 = .ok (.aload_n 0, 1) := by decide +kernel
theorem dX12_comeTo_116 : decode cX12_comeTo 116 = .ok (.iconst 0, 1) := by decide +kernel
theorem dX12_comeTo_117 : decode cX12_comeTo 117 = .ok (.putfield 489, 3) := by decide +kernel
theorem dX12_comeTo_120 : decode cX12_comeTo 120 = .ok (.aload_n 0, 1) := by decide +kernel
theorem dX12_comeTo_121 : decode cX12_comeTo 121 = .ok (.invokevirtual 479, 3) := by decide +kernel
theorem dX12_comeTo_124 : decode cX12_comeTo 124 = .ok (.aload_n 0, 1) := by decide +kernel
theorem dX12_comeTo_125 : decode cX12_comeTo 125 = .ok (.iconst 0, 1) := by decide +kernel
theorem dX12_comeTo_126 : decode cX12_comeTo 126 = .ok (.iconst 0, 1) := by decide +kernel
theorem dX12_comeTo_127 : decode cX12_comeTo 127 = .ok (.iconst 0, 1) := by decide +kernel
theorem dX12_comeTo_128 : decode cX12_comeTo 128 = .ok (.invokevirtual 492, 3) := by decide +kernel
theorem dX12_comeTo_131 : decode cX12_comeTo 131 = .ok (.iconst 0, 1) := by decide +kernel
theorem dX12_comeTo_132 : decode cX12_comeTo 132 = .ok (.istore 6, 2) := by decide +kernel
theorem dX12_comeTo_134 : decode cX12_comeTo 134 = .ok (.iload 6, 2) := by decide +kernel
theorem dX12_comeTo_136 : decode cX12_comeTo 136 = .ok (.aload_n 0, 1) := by decide +kernel
theorem dX12_comeTo_137 : decode cX12_comeTo 137 = .ok (.getfield 489, 3) := by decide +kernel
theorem dX12_comeTo_140 : decode cX12_comeTo 140 = .ok (.if_icmp .ge 253, 3) := by decide +kernel
theorem dX12_comeTo_143 : decode cX12_comeTo 143 = .ok (.aload_n 0, 1) := by decide +kernel
theorem dX12_comeTo_144 : decode cX12_comeTo 144 = .ok (.getfield 198, 3) := by decide +kernel
theorem dX12_comeTo_147 : decode cX12_comeTo 147 = .ok (.iload 6, 2) := by decide +kernel
theorem dX12_comeTo_149 : decode cX12_comeTo 149 = .ok (.iaload, 1) := by decide +kernel
theorem dX12_comeTo_150 : decode cX12_comeTo 150 = .ok (.bipush 81, 2) := by decide +kernel
theorem dX12_comeTo_152 : decode cX12_comeTo 152 = .ok (.irem, 1) := by decide +kernel
theorem dX12_comeTo_153 : decode cX12_comeTo 153 = .ok (.istore 7, 2) := by decide +kernel
theorem dX12_comeTo_155 : decode cX12_comeTo 155 = .ok (.aload_n 0, 1) := by decide +kernel
theorem dX12_comeTo_156 : decode cX12_comeTo 156 = .ok (.getfield 198, 3) := by decide +kernel
theorem dX12_comeTo_159 : decode cX12_comeTo 159 = .ok (.iload 6, 2) := by decide +kernel
theorem dX12_comeTo_161 : decode cX12_comeTo 161 = .ok (.iaload, 1) := by decide +kernel
theorem dX12_comeTo_162 : decode cX12_comeTo 162 = .ok (.bipush 81, 2) := by decide +kernel
theorem dX12_comeTo_164 : decode cX12_comeTo 164 = .ok (.idiv, 1) := by decide +kernel
theorem dX12_comeTo_165 : decode cX12_comeTo 165 = .ok (.iconst 5, 1) := by decide +kernel
theorem dX12_comeTo_166 : decode cX12_comeTo 166 = .ok (.irem, 1) := by decide +kernel
theorem dX12_comeTo_167 : decode cX12_comeTo 167 = .ok (.istore 8, 2) := by decide +kernel
theorem dX12_comeTo_169 : decode cX12_comeTo 169 = .ok (.aload_n 0, 1) := by decide +kernel
theorem dX12_comeTo_170 : decode cX12_comeTo 170 = .ok (.getfield 198, 3) := by decide +kernel
theorem dX12_comeTo_173 : decode cX12_comeTo 173 = .ok (.iload 6, 2) := by decide +kernel
theorem dX12_comeTo_175 : decode cX12_comeTo 175 = .ok (.iaload, 1) := by decide +kernel
theorem dX12_comeTo_176 : decode cX12_comeTo 176 = .ok (.sipush 405, 3) := by decide +kernel
theorem dX12_comeTo_179 : decode cX12_comeTo 179 = .ok (.idiv, 1) := by decide +kernel
theorem dX12_comeTo_180 : decode cX12_comeTo 180 = .ok (.istore 9, 2) := by decide +kernel
theorem dX12_comeTo_182 : decode cX12_comeTo 182 = .ok (.aload_n 0, 1) := by decide +kernel
theorem dX12_comeTo_183 : decode cX12_comeTo 183 = .ok (.iload 8, 2) := by decide +kernel
theorem dX12_comeTo_185 : decode cX12_comeTo 185 = .ok (.iload 7, 2) := by decide +kernel
theorem dX12_comeTo_187 : decode cX12_comeTo 187 = .ok (.invokevirtual 453, 3) := by decide +kernel
theorem dX12_comeTo_190 : decode cX12_comeTo 190 = .ok (.aload_n 0, 1) := by decide +kernel
theorem dX12_comeTo_191 : decode cX12_comeTo 191 = .ok (.getfield 192, 3) := by decide +kernel
theorem dX12_comeTo_194 : decode cX12_comeTo 194 = .ok (.iload 9, 2) := by decide +kernel
theorem dX12_comeTo_196 : decode cX12_comeTo 196 = .ok (.iaload, 1) := by decide +kernel
theorem dX12_comeTo_197 : decode cX12_comeTo 197 = .ok (.istore 4, 2) := by decide +kernel
theorem dX12_comeTo_199 : decode cX12_comeTo 199 = .ok (.aload_n 0, 1) := by decide +kernel
theorem dX12_comeTo_200 : decode cX12_comeTo 200 = .ok (.iload 4, 2) := by decide +kernel
theorem dX12_comeTo_202 : decode cX12_comeTo 202 = .ok (.invokevirtual 374, 3) := by decide +kernel
theorem dX12_comeTo_205 : decode cX12_comeTo 205 = .ok (.ifCond .eq 6, 3) := by decide +kernel
theorem dX12_comeTo_208 : decode cX12_comeTo 208 = .ok (.goto 179, 3) := by decide +kernel
theorem dX12_comeTo_211 : decode cX12_comeTo 211 = .ok (.iload 9, 2) := by decide +kernel
theorem dX12_comeTo_213 : decode cX12_comeTo 213 = .ok (.iload 5, 2) := by decide +kernel
theorem dX12_comeTo_215 : decode cX12_comeTo 215 = .ok (.if_icmp .ne 5, 3) := by decide +kernel
theorem dX12_comeTo_218 : decode cX12_comeTo 218 = .ok (.iconst 1, 1) := by decide +kernel
theorem dX12_comeTo_219 : decode cX12_comeTo 219 = .ok (.ireturn, 1) := by decide +kernel
theorem dX12_comeTo_220 : decode cX12_comeTo 220 = .ok (.aload_n 0, 1) := by decide +kernel
theorem dX12_comeTo_221 : decode cX12_comeTo 221 = .ok (.getfield 20, 3) := by decide +kernel
theorem dX12_comeTo_224 : decode cX12_comeTo 224 = .ok (.iload 4, 2) := by decide +kernel
theorem dX12_comeTo_226 : decode cX12_comeTo 226 = .ok (.iaload, 1) := by decide +kernel
theorem dX12_comeTo_227 : decode cX12_comeTo 227 = .ok (.bipush 6, 2) := by decide +kernel
theorem dX12_comeTo_229 : decode cX12_comeTo 229 = .ok (.if_icmp .eq 15, 3) := by decide +kernel
theorem dX12_comeTo_232 : decode cX12_comeTo 232 = .ok (.aload_n 0, 1) := by decide +kernel
theorem dX12_comeTo_233 : decode cX12_comeTo 233 = .ok (.getfield 20, 3) := by decide +kernel
theorem dX12_comeTo_236 : decode cX12_comeTo 236 = .ok (.iload 4, 2) := by decide +kernel
theorem dX12_comeTo_238 : decode cX12_comeTo 238 = .ok (.iaload, 1) := by decide +kernel
theorem dX12_comeTo_239 : decode cX12_comeTo 239 = .ok (.bipush 7, 2) := by decide +kernel
theorem dX12_comeTo_241 : decode cX12_comeTo 241 = .ok (.if_icmp .ne 7, 3) := by decide +kernel
theorem dX12_comeTo_244 : decode cX12_comeTo 244 = .ok (.iconst 1, 1) := by decide +kernel
theorem dX12_comeTo_245 : decode cX12_comeTo 245 = .ok (.goto 4, 3) := by decide +kernel
theorem dX12_comeTo_248 : decode cX12_comeTo 248 = .ok (.iconst 0, 1) := by decide +kernel
theorem dX12_comeTo_249 : decode cX12_comeTo 249 = .ok (.istore 10, 2) := by decide +kernel
theorem dX12_comeTo_251 : decode cX12_comeTo 251 = .ok (.iload 10, 2) := by decide +kernel
theorem dX12_comeTo_253 : decode cX12_comeTo 253 = .ok (.ifCond .eq 12, 3) := by decide +kernel
theorem dX12_comeTo_256 : decode cX12_comeTo 256 = .ok (.aload_n 0, 1) := by decide +kernel
theorem dX12_comeTo_257 : decode cX12_comeTo 257 = .ok (.iload 4, 2) := by decide +kernel
theorem dX12_comeTo_259 : decode cX12_comeTo 259 = .ok (.invokevirtual 348, 3) := by decide +kernel
theorem dX12_comeTo_262 : decode cX12_comeTo 262 = .ok (.goto 37, 3) := by decide +kernel
theorem dX12_comeTo_265 : decode cX12_comeTo 265 = .ok (.aload_n 0, 1) := by decide +kernel
theorem dX12_comeTo_266 : decode cX12_comeTo 266 = .ok (.getfield 20, 3) := by decide +kernel
theorem dX12_comeTo_269 : decode cX12_comeTo 269 = .ok (.iload 4, 2) := by decide +kernel
theorem dX12_comeTo_271 : decode cX12_comeTo 271 = .ok (.iaload, 1) := by decide +kernel
theorem dX12_comeTo_272 : decode cX12_comeTo 272 = .ok (.iconst 5, 1) := by decide +kernel
theorem dX12_comeTo_273 : decode cX12_comeTo 273 = .ok (.if_icmp .ne 21, 3) := by decide +kernel
theorem dX12_comeTo_276 : decode cX12_comeTo 276 = .ok (.aload_n 0, 1) := by decide +kernel
theorem dX12_comeTo_277 : decode cX12_comeTo 277 = .ok (.iload 4, 2) := by decide +kernel
theorem dX12_comeTo_279 : decode cX12_comeTo 279 = .ok (.invokevirtual 377, 3) := by decide +kernel
theorem dX12_comeTo_282 : decode cX12_comeTo 282 = .ok (.aload_n 0, 1) := by decide +kernel
theorem dX12_comeTo_283 : decode cX12_comeTo 283 = .ok (.getfield 192, 3) := by decide +kernel
theorem dX12_comeTo_286 : decode cX12_comeTo 286 = .ok (.iload 9, 2) := by decide +kernel
theorem dX12_comeTo_288 : decode cX12_comeTo 288 = .ok (.iconst 1, 1) := by decide +kernel
theorem dX12_comeTo_289 : decode cX12_comeTo 289 = .ok (.iadd, 1) := by decide +kernel
theorem dX12_comeTo_290 : decode cX12_comeTo 290 = .ok (.iaload, 1) := by decide +kernel
theorem dX12_comeTo_291 : decode cX12_comeTo 291 = .ok (.if_icmp .ne 7, 3) := by decide +kernel
theorem dX12_comeTo_294 : decode cX12_comeTo 294 = .ok (.iconst 1, 1) := by decide +kernel
theorem dX12_comeTo_295 : decode cX12_comeTo 295 = .ok (.goto 4, 3) := by decide +kernel
theorem dX12_comeTo_298 : decode cX12_comeTo 298 = .ok (.iconst 0, 1) := by decide +kernel
theorem dX12_comeTo_299 : decode cX12_comeTo 299 = .ok (.istore 11, 2) := by decide +kernel
theorem dX12_comeTo_301 : decode cX12_comeTo 301 = .ok (.iload 11, 2) := by decide +kernel
theorem dX12_comeTo_303 : decode cX12_comeTo 303 = .ok (.ifCond .eq 15, 3) := by decide +kernel
theorem dX12_comeTo_306 : decode cX12_comeTo 306 = .ok (.aload_n 0, 1) := by decide +kernel
theorem dX12_comeTo_307 : decode cX12_comeTo 307 = .ok (.iload 9, 2) := by decide +kernel
theorem dX12_comeTo_309 : decode cX12_comeTo 309 = .ok (.iconst 1, 1) := by decide +kernel
theorem dX12_comeTo_310 : decode cX12_comeTo 310 = .ok (.iadd, 1) := by decide +kernel
theorem dX12_comeTo_311 : decode cX12_comeTo 311 = .ok (.iload 8, 2) := by decide +kernel
theorem dX12_comeTo_313 : decode cX12_comeTo 313 = .ok (.iload 7, 2) := by decide +kernel
theorem dX12_comeTo_315 : decode cX12_comeTo 315 = .ok (.invokevirtual 492, 3) := by decide +kernel
theorem dX12_comeTo_318 : decode cX12_comeTo 318 = .ok (.iload 10, 2) := by decide +kernel
theorem dX12_comeTo_320 : decode cX12_comeTo 320 = .ok (.ifCond .eq 67, 3) := by decide +kernel
theorem dX12_comeTo_323 : decode cX12_comeTo 323 = .ok (.iload 8, 2) := by decide +kernel
theorem dX12_comeTo_325 : decode cX12_comeTo 325 = .ok (.iload_n 2, 1) := by decide +kernel
theorem dX12_comeTo_326 : decode cX12_comeTo 326 = .ok (.if_icmp .eq 61, 3) := by decide +kernel
theorem dX12_comeTo_329 : decode cX12_comeTo 329 = .ok (.iload 11, 2) := by decide +kernel
theorem dX12_comeTo_331 : decode cX12_comeTo 331 = .ok (.ifCond .eq 18, 3) := by decide +kernel
theorem dX12_comeTo_334 : decode cX12_comeTo 334 = .ok (.aload_n 0, 1) := by decide +kernel
theorem dX12_comeTo_335 : decode cX12_comeTo 335 = .ok (.getfield 20, 3) := by decide +kernel
theorem dX12_comeTo_338 : decode cX12_comeTo 338 = .ok (.iload 4, 2) := by decide +kernel
theorem dX12_comeTo_340 : decode cX12_comeTo 340 = .ok (.iaload, 1) := by decide +kernel
theorem dX12_comeTo_341 : decode cX12_comeTo 341 = .ok (.bipush 6, 2) := by decide +kernel
theorem dX12_comeTo_343 : decode cX12_comeTo 343 = .ok (.if_icmp .ne 6, 3) := by decide +kernel
theorem dX12_comeTo_346 : decode cX12_comeTo 346 = .ok (.goto 41, 3) := by decide +kernel
theorem dX12_comeTo_349 : decode cX12_comeTo 349 = .ok (.iconst 0, 1) := by decide +kernel
theorem dX12_comeTo_350 : decode cX12_comeTo 350 = .ok (.istore 12, 2) := by decide +kernel
theorem dX12_comeTo_352 : decode cX12_comeTo 352 = .ok (.iload 12, 2) := by decide +kernel
theorem dX12_comeTo_354 : decode cX12_comeTo 354 = .ok (.aload_n 0, 1) := by decide +kernel
theorem dX12_comeTo_355 : decode cX12_comeTo 355 = .ok (.getfield 151, 3) := by decide +kernel
theorem dX12_comeTo_358 : decode cX12_comeTo 358 = .ok (.if_icmp .ge 29, 3) := by decide +kernel
theorem dX12_comeTo_361 : decode cX12_comeTo 361 = .ok (.aload_n 0, 1) := by decide +kernel
theorem dX12_comeTo_362 : decode cX12_comeTo 362 = .ok (.iload 9, 2) := by decide +kernel
theorem dX12_comeTo_364 : decode cX12_comeTo 364 = .ok (.iload 8, 2) := by decide +kernel
theorem dX12_comeTo_366 : decode cX12_comeTo 366 = .ok (.iconst 1, 1) := by decide +kernel
theorem dX12_comeTo_367 : decode cX12_comeTo 367 = .ok (.iadd, 1) := by decide +kernel
theorem dX12_comeTo_368 : decode cX12_comeTo 368 = .ok (.iload 7, 2) := by decide +kernel
theorem dX12_comeTo_370 : decode cX12_comeTo 370 = .ok (.aload_n 0, 1) := by decide +kernel
theorem dX12_comeTo_371 : decode cX12_comeTo 371 = .ok (.getfield 151, 3) := by decide +kernel
theorem dX12_comeTo_374 : decode cX12_comeTo 374 = .ok (.imul, 1) := by decide +kernel
theorem dX12_comeTo_375 : decode cX12_comeTo 375 = .ok (.iload 12, 2) := by decide +kernel
theorem dX12_comeTo_377 : decode cX12_comeTo 377 = .ok (.iadd, 1) := by decide +kernel
theorem dX12_comeTo_378 : decode cX12_comeTo 378 = .ok (.invokevirtual 492, 3) := by decide +kernel
theorem dX12_comeTo_381 : decode cX12_comeTo 381 = .ok (.iinc 12 1, 3) := by decide +kernel
theorem dX12_comeTo_384 : decode cX12_comeTo 384 = .ok (.goto (-32), 3) := by decide +kernel
theorem dX12_comeTo_387 : decode cX12_comeTo 387 = .ok (.iinc 6 1, 3) := by decide +kernel
theorem dX12_comeTo_390 : decode cX12_comeTo 390 = .ok (.goto (-256), 3) := by decide +kernel
theorem dX12_comeTo_393 : decode cX12_comeTo 393 = .ok (.iconst 0, 1) := by decide +kernel
theorem dX12_comeTo_394 : decode cX12_comeTo 394 = .ok (.ireturn, 1) := by decide +kernel
theorem dX12_parted_0 : decode cX12_parted 0 = .ok (.aload_n 0, 1) := by decide +kernel
theorem dX12_parted_1 : decode cX12_parted 1 = .ok (.iload_n 1, 1) := by decide +kernel
theorem dX12_parted_2 : decode cX12_parted 2 = .ok (.invokevirtual 337, 3) := by decide +kernel
theorem dX12_parted_5 : decode cX12_parted 5 = .ok (.ifCond .eq 39, 3) := by decide +kernel
theorem dX12_parted_8 : decode cX12_parted 8 = .ok (.aload_n 0, 1) := by decide +kernel
theorem dX12_parted_9 : decode cX12_parted 9 = .ok (.iload_n 2, 1) := by decide +kernel
theorem dX12_parted_10 : decode cX12_parted 10 = .ok (.invokevirtual 337, 3) := by decide +kernel
theorem dX12_parted_13 : decode cX12_parted 13 = .ok (.ifCond .eq 31, 3) := by decide +kernel
theorem dX12_parted_16 : decode cX12_parted 16 = .ok (.iload_n 3, 1) := by decide +kernel
theorem dX12_parted_17 : decode cX12_parted 17 = .ok (.i2l, 1) := by decide +kernel
theorem dX12_parted_18 : decode cX12_parted 18 = .ok (.lconst 1, 1) := by decide +kernel
theorem dX12_parted_19 : decode cX12_parted 19 = .ok (.ldc2_w 441, 3) := by decide +kernel
theorem dX12_parted_22 : decode cX12_parted 22 = .ok (.invokestatic 245, 3) := by decide +kernel
theorem dX12_parted_25 : decode cX12_parted 25 = .ok (.ifCond .eq 19, 3) := by decide +kernel
theorem dX12_parted_28 : decode cX12_parted 28 = .ok (.aload_n 0, 1) := by decide +kernel
theorem dX12_parted_29 : decode cX12_parted 29 = .ok (.iload_n 1, 1) := by decide +kernel
theorem dX12_parted_30 : decode cX12_parted 30 = .ok (.invokevirtual 501, 3) := by decide +kernel
theorem dX12_parted_33 : decode cX12_parted 33 = .ok (.ifCond .ne 11, 3) := by decide +kernel
theorem dX12_parted_36 : decode cX12_parted 36 = .ok (.aload_n 0, 1) := by decide +kernel
theorem dX12_parted_37 : decode cX12_parted 37 = .ok (.iload_n 2, 1) := by decide +kernel
theorem dX12_parted_38 : decode cX12_parted 38 = .ok (.invokevirtual 501, 3) := by decide +kernel
theorem dX12_parted_41 : decode cX12_parted 41 = .ok (.ifCond .eq 5, 3) := by decide +kernel
theorem dX12_parted_44 : decode cX12_parted 44 = .ok (.iconst (-1), 1) := by decide +kernel
theorem dX12_parted_45 : decode cX12_parted 45 = .ok (.ireturn, 1) := by decide +kernel
theorem dX12_parted_46 : decode cX12_parted 46 = .ok (.aload_n 0, 1) := by decide +kernel
theorem dX12_parted_47 : decode cX12_parted 47 = .ok (.invokevirtual 479, 3) := by decide +kernel
theorem dX12_parted_50 : decode cX12_parted 50 = .ok (.iconst 0, 1) := by decide +kernel
theorem dX12_parted_51 : decode cX12_parted 51 = .ok (.istore 4, 2) := by decide +kernel
theorem dX12_parted_53 : decode cX12_parted 53 = .ok (.iload 4, 2) := by decide +kernel
theorem dX12_parted_55 : decode cX12_parted 55 = .ok (.aload_n 0, 1) := by decide +kernel
theorem dX12_parted_56 : decode cX12_parted 56 = .ok (.getfield 151, 3) := by decide +kernel
theorem dX12_parted_59 : decode cX12_parted 59 = .ok (.iload_n 3, 1) := by decide +kernel
theorem dX12_parted_60 : decode cX12_parted 60 = .ok (.invokestatic 463, 3) := by decide +kernel
theorem dX12_parted_63 : decode cX12_parted 63 = .ok (.if_icmp .ge 82, 3) := by decide +kernel
theorem dX12_parted_66 : decode cX12_parted 66 = .ok (.iconst 0, 1) := by decide +kernel
theorem dX12_parted_67 : decode cX12_parted 67 = .ok (.istore 5, 2) := by decide +kernel
theorem dX12_parted_69 : decode cX12_parted 69 = .ok (.iload 5, 2) := by decide +kernel
theorem dX12_parted_71 : decode cX12_parted 71 = .ok (.iload_n 3, 1) := by decide +kernel
theorem dX12_parted_72 : decode cX12_parted 72 = .ok (.if_icmp .gt 17, 3) := by decide +kernel
theorem dX12_parted_75 : decode cX12_parted 75 = .ok (.aload_n 0, 1) := by decide +kernel
theorem dX12_parted_76 : decode cX12_parted 76 = .ok (.getfield 207, 3) := by decide +kernel
theorem dX12_parted_79 : decode cX12_parted 79 = .ok (.iload 5, 2) := by decide +kernel
theorem dX12_parted_81 : decode cX12_parted 81 = .ok (.lconst 0, 1) := by decide +kernel
theorem dX12_parted_82 : decode cX12_parted 82 = .ok (.lastore, 1) := by decide +kernel
theorem dX12_parted_83 : decode cX12_parted 83 = .ok (.iinc 5 1, 3) := by decide +kernel
theorem dX12_parted_86 : decode cX12_parted 86 = .ok (.goto (-17), 3) := by decide +kernel
theorem dX12_parted_89 : decode cX12_parted 89 = .ok (.aload_n 0, 1) := by decide +kernel
theorem dX12_parted_90 : decode cX12_parted 90 = .ok (.iload_n 1, 1) := by decide +kernel
theorem dX12_parted_91 : decode cX12_parted 91 = .ok (.iload 4, 2) := by decide +kernel
theorem dX12_parted_93 : decode cX12_parted 93 = .ok (.iload_n 3, 1) := by decide +kernel
theorem dX12_parted_94 : decode cX12_parted 94 = .ok (.lconst 1, 1) := by decide +kernel
theorem dX12_parted_95 : decode cX12_parted 95 = .ok (.invokevirtual 504, 3) := by decide +kernel
theorem dX12_parted_98 : decode cX12_parted 98 = .ok (.aload_n 0, 1) := by decide +kernel
theorem dX12_parted_99 : decode cX12_parted 99 = .ok (.iload_n 2, 1) := by decide +kernel
theorem dX12_parted_100 : decode cX12_parted 100 = .ok (.iload 4, 2) := by decide +kernel
theorem dX12_parted_102 : decode cX12_parted 102 = .ok (.iload_n 3, 1) := by decide +kernel
theorem dX12_parted_103 : decode cX12_parted 103 = .ok (.ldc2_w 293, 3) := by decide +kernel
theorem dX12_parted_106 : decode cX12_parted 106 = .ok (.invokevirtual 504, 3) := by decide +kernel
theorem dX12_parted_109 : decode cX12_parted 109 = .ok (.iconst 0, 1) := by decide +kernel
theorem dX12_parted_110 : decode cX12_parted 110 = .ok (.istore 5, 2) := by decide +kernel
theorem dX12_parted_112 : decode cX12_parted 112 = .ok (.iload 5, 2) := by decide +kernel
theorem dX12_parted_114 : decode cX12_parted 114 = .ok (.iload_n 3, 1) := by decide +kernel
theorem dX12_parted_115 : decode cX12_parted 115 = .ok (.if_icmp .gt 24, 3) := by decide +kernel
theorem dX12_parted_118 : decode cX12_parted 118 = .ok (.aload_n 0, 1) := by decide +kernel
theorem dX12_parted_119 : decode cX12_parted 119 = .ok (.getfield 207, 3) := by decide +kernel
theorem dX12_parted_122 : decode cX12_parted 122 = .ok (.iload 5, 2) := by decide +kernel
theorem dX12_parted_124 : decode cX12_parted 124 = .ok (.laload, 1) := by decide +kernel
theorem dX12_parted_125 : decode cX12_parted 125 = .ok (.lconst 0, 1) := by decide +kernel
theorem dX12_parted_126 : decode cX12_parted 126 = .ok (.lcmp, 1) := by decide +kernel
theorem dX12_parted_127 : decode cX12_parted 127 = .ok (.ifCond .eq 6, 3) := by decide +kernel
theorem dX12_parted_130 : decode cX12_parted 130 = .ok (.iload 4, 2) := by decide +kernel
theorem dX12_parted_132 : decode cX12_parted 132 = .ok (.ireturn, 1) := by decide +kernel
theorem dX12_parted_133 : decode cX12_parted 133 = .ok (.iinc 5 1, 3) := by decide +kernel
theorem dX12_parted_136 : decode cX12_parted 136 = .ok (.goto (-24), 3) := by decide +kernel
theorem dX12_parted_139 : decode cX12_parted 139 = .ok (.iinc 4 1, 3) := by decide +kernel
theorem dX12_parted_142 : decode cX12_parted 142 = .ok (.goto (-89), 3) := by decide +kernel
theorem dX12_parted_145 : decode cX12_parted 145 = .ok (.bipush (-2), 2) := by decide +kernel
theorem dX12_parted_147 : decode cX12_parted 147 = .ok (.ireturn, 1) := by decide +kernel
theorem dX12_count_0 : decode cX12_count 0 = .ok (.iload_n 1, 1) := by decide +kernel
theorem dX12_count_1 : decode cX12_count 1 = .ok (.tableswitch 87 0 7 #[47, 52, 57, 62, 67, 72, 77, 82], 47) := by decide +kernel
theorem dX12_count_48 : decode cX12_count 48 = .ok (.aload_n 0, 1) := by decide +kernel
theorem dX12_count_49 : decode cX12_count 49 = .ok (.getfield 249, 3) := by decide +kernel
theorem dX12_count_52 : decode cX12_count 52 = .ok (.ireturn, 1) := by decide +kernel
theorem dX12_count_53 : decode cX12_count 53 = .ok (.aload_n 0, 1) := by decide +kernel
theorem dX12_count_54 : decode cX12_count 54 = .ok (.getfield 307, 3) := by decide +kernel
theorem dX12_count_57 : decode cX12_count 57 = .ok (.ireturn, 1) := by decide +kernel
theorem dX12_count_58 : decode cX12_count 58 = .ok (.aload_n 0, 1) := by decide +kernel
theorem dX12_count_59 : decode cX12_count 59 = .ok (.getfield 394, 3) := by decide +kernel
theorem dX12_count_62 : decode cX12_count 62 = .ok (.ireturn, 1) := by decide +kernel
theorem dX12_count_63 : decode cX12_count 63 = .ok (.aload_n 0, 1) := by decide +kernel
theorem dX12_count_64 : decode cX12_count 64 = .ok (.getfield 364, 3) := by decide +kernel
theorem dX12_count_67 : decode cX12_count 67 = .ok (.ireturn, 1) := by decide +kernel
theorem dX12_count_68 : decode cX12_count 68 = .ok (.aload_n 0, 1) := by decide +kernel
theorem dX12_count_69 : decode cX12_count 69 = .ok (.getfield 262, 3) := by decide +kernel
theorem dX12_count_72 : decode cX12_count 72 = .ok (.ireturn, 1) := by decide +kernel
theorem dX12_count_73 : decode cX12_count 73 = .ok (.aload_n 0, 1) := by decide +kernel
theorem dX12_count_74 : decode cX12_count 74 = .ok (.getfield 541, 3) := by decide +kernel
theorem dX12_count_77 : decode cX12_count 77 = .ok (.ireturn, 1) := by decide +kernel
theorem dX12_count_78 : decode cX12_count 78 = .ok (.aload_n 0, 1) := by decide +kernel
theorem dX12_count_79 : decode cX12_count 79 = .ok (.getfield 151, 3) := by decide +kernel
theorem dX12_count_82 : decode cX12_count 82 = .ok (.ireturn, 1) := by decide +kernel
theorem dX12_count_83 : decode cX12_count 83 = .ok (.aload_n 0, 1) := by decide +kernel
theorem dX12_count_84 : decode cX12_count 84 = .ok (.getfield 367, 3) := by decide +kernel
theorem dX12_count_87 : decode cX12_count 87 = .ok (.ireturn, 1) := by decide +kernel
theorem dX12_count_88 : decode cX12_count 88 = .ok (.iconst (-1), 1) := by decide +kernel
theorem dX12_count_89 : decode cX12_count 89 = .ok (.ireturn, 1) := by decide +kernel
theorem dX0_init_0 : decode cX0_init 0 = .ok (.aload_n 0, 1) := by decide +kernel
theorem dX0_init_1 : decode cX0_init 1 = .ok (.invokespecial 3, 3) := by decide +kernel
theorem dX0_init_4 : decode cX0_init 4 = .ok (.aload_n 0, 1) := by decide +kernel
theorem dX0_init_5 : decode cX0_init 5 = .ok (.sipush 2400, 3) := by decide +kernel
theorem dX0_init_8 : decode cX0_init 8 = .ok (.newarray .int, 2) := by decide +kernel
theorem dX0_init_10 : decode cX0_init 10 = .ok (.putfield 9, 3) := by decide +kernel
theorem dX0_init_13 : decode cX0_init 13 = .ok (.aload_n 0, 1) := by decide +kernel
theorem dX0_init_14 : decode cX0_init 14 = .ok (.new 15, 3) := by decide +kernel
theorem dX0_init_17 : decode cX0_init 17 = .ok (.dup, 1) := by decide +kernel
theorem dX0_init_18 : decode cX0_init 18 = .ok (.invokespecial 17, 3) := by decide +kernel
theorem dX0_init_21 : decode cX0_init 21 = .ok (.putfield 18, 3) := by decide +kernel
theorem dX0_init_24 : decode cX0_init 24 = .ok (.return_, 1) := by decide +kernel
theorem dX0_write_0 : decode cX0_write 0 = .ok (.iload_n 1, 1) := by decide +kernel
theorem dX0_write_1 : decode cX0_write 1 = .ok (.ifCond .lt 31, 3) := by decide +kernel
theorem dX0_write_4 : decode cX0_write 4 = .ok (.iload_n 1, 1) := by decide +kernel
theorem dX0_write_5 : decode cX0_write 5 = .ok (.bipush 6, 2) := by decide +kernel
theorem dX0_write_7 : decode cX0_write 7 = .ok (.if_icmp .ge 25, 3) := by decide +kernel
theorem dX0_write_10 : decode cX0_write 10 = .ok (.iload_n 2, 1) := by decide +kernel
theorem dX0_write_11 : decode cX0_write 11 = .ok (.ifCond .lt 21, 3) := by decide +kernel
theorem dX0_write_14 : decode cX0_write 14 = .ok (.iload_n 2, 1) := by decide +kernel
theorem dX0_write_15 : decode cX0_write 15 = .ok (.sipush 400, 3) := by decide +kernel
theorem dX0_write_18 : decode cX0_write 18 = .ok (.if_icmp .ge 14, 3) := by decide +kernel
theorem dX0_write_21 : decode cX0_write 21 = .ok (.iload_n 2, 1) := by decide +kernel
theorem dX0_write_22 : decode cX0_write 22 = .ok (.aload_n 0, 1) := by decide +kernel
theorem dX0_write_23 : decode cX0_write 23 = .ok (.getfield 18, 3) := by decide +kernel
theorem dX0_write_26 : decode cX0_write 26 = .ok (.getfield 22, 3) := by decide +kernel
theorem dX0_write_29 : decode cX0_write 29 = .ok (.if_icmp .le 5, 3) := by decide +kernel
theorem dX0_write_32 : decode cX0_write 32 = .ok (.iconst 0, 1) := by decide +kernel
theorem dX0_write_33 : decode cX0_write 33 = .ok (.ireturn, 1) := by decide +kernel
theorem dX0_write_34 : decode cX0_write 34 = .ok (.iload_n 3, 1) := by decide +kernel
theorem dX0_write_35 : decode cX0_write 35 = .ok (.sipush (-9999), 3) := by decide +kernel
theorem dX0_write_38 : decode cX0_write 38 = .ok (.if_icmp .lt 10, 3) := by decide +kernel
theorem dX0_write_41 : decode cX0_write 41 = .ok (.iload_n 3, 1) := by decide +kernel
theorem dX0_write_42 : decode cX0_write 42 = .ok (.sipush 9999, 3) := by decide +kernel
theorem dX0_write_45 : decode cX0_write 45 = .ok (.if_icmp .le 5, 3) := by decide +kernel
theorem dX0_write_48 : decode cX0_write 48 = .ok (.iconst 0, 1) := by decide +kernel
theorem dX0_write_49 : decode cX0_write 49 = .ok (.ireturn, 1) := by decide +kernel
theorem dX0_write_50 : decode cX0_write 50 = .ok (.aload_n 0, 1) := by decide +kernel
theorem dX0_write_51 : decode cX0_write 51 = .ok (.getfield 9, 3) := by decide +kernel
theorem dX0_write_54 : decode cX0_write 54 = .ok (.iload_n 1, 1) := by decide +kernel
theorem dX0_write_55 : decode cX0_write 55 = .ok (.sipush 400, 3) := by decide +kernel
theorem dX0_write_58 : decode cX0_write 58 = .ok (.imul, 1) := by decide +kernel
theorem dX0_write_59 : decode cX0_write 59 = .ok (.iload_n 2, 1) := by decide +kernel
theorem dX0_write_60 : decode cX0_write 60 = .ok (.iadd, 1) := by decide +kernel
theorem dX0_write_61 : decode cX0_write 61 = .ok (.iload_n 3, 1) := by decide +kernel
theorem dX0_write_62 : decode cX0_write 62 = .ok (.sipush (-10000), 3) := by decide +kernel
theorem dX0_write_65 : decode cX0_write 65 = .ok (.isub, 1) := by decide +kernel
theorem dX0_write_66 : decode cX0_write 66 = .ok (.iastore, 1) := by decide +kernel
theorem dX0_write_67 : decode cX0_write 67 = .ok (.aload_n 0, 1) := by decide +kernel
theorem dX0_write_68 : decode cX0_write 68 = .ok (.getfield 18, 3) := by decide +kernel
theorem dX0_write_71 : decode cX0_write 71 = .ok (.iload_n 1, 1) := by decide +kernel
theorem dX0_write_72 : decode cX0_write 72 = .ok (.aload_n 0, 1) := by decide +kernel
theorem dX0_write_73 : decode cX0_write 73 = .ok (.iload_n 1, 1) := by decide +kernel
theorem dX0_write_74 : decode cX0_write 74 = .ok (.aload_n 0, 1) := by decide +kernel
theorem dX0_write_75 : decode cX0_write 75 = .ok (.getfield 18, 3) := by decide +kernel
theorem dX0_write_78 : decode cX0_write 78 = .ok (.getfield 22, 3) := by decide +kernel
theorem dX0_write_81 : decode cX0_write 81 = .ok (.invokevirtual 26, 3) := by decide +kernel
theorem dX0_write_84 : decode cX0_write 84 = .ok (.invokevirtual 30, 3) := by decide +kernel
theorem dX0_write_87 : decode cX0_write 87 = .ok (.iconst 1, 1) := by decide +kernel
theorem dX0_write_88 : decode cX0_write 88 = .ok (.ireturn, 1) := by decide +kernel
theorem dX0_read_0 : decode cX0_read 0 = .ok (.iload_n 1, 1) := by decide +kernel
theorem dX0_read_1 : decode cX0_read 1 = .ok (.ifCond .lt 20, 3) := by decide +kernel
theorem dX0_read_4 : decode cX0_read 4 = .ok (.iload_n 1, 1) := by decide +kernel
theorem dX0_read_5 : decode cX0_read 5 = .ok (.bipush 6, 2) := by decide +kernel
theorem dX0_read_7 : decode cX0_read 7 = .ok (.if_icmp .ge 14, 3) := by decide +kernel
theorem dX0_read_10 : decode cX0_read 10 = .ok (.iload_n 2, 1) := by decide +kernel
theorem dX0_read_11 : decode cX0_read 11 = .ok (.ifCond .lt 10, 3) := by decide +kernel
theorem dX0_read_14 : decode cX0_read 14 = .ok (.iload_n 2, 1) := by decide +kernel
theorem dX0_read_15 : decode cX0_read 15 = .ok (.sipush 400, 3) := by decide +kernel
theorem dX0_read_18 : decode cX0_read 18 = .ok (.if_icmp .lt 7, 3) := by decide +kernel
theorem dX0_read_21 : decode cX0_read 21 = .ok (.sipush (-10000), 3) := by decide +kernel
theorem dX0_read_24 : decode cX0_read 24 = .ok (.ireturn, 1) := by decide +kernel
theorem dX0_read_25 : decode cX0_read 25 = .ok (.iload_n 2, 1) := by decide +kernel
theorem dX0_read_26 : decode cX0_read 26 = .ok (.istore_n 3, 1) := by decide +kernel
theorem dX0_read_27 : decode cX0_read 27 = .ok (.iload_n 3, 1) := by decide +kernel
theorem dX0_read_28 : decode cX0_read 28 = .ok (.ifCond .lt 35, 3) := by decide +kernel
theorem dX0_read_31 : decode cX0_read 31 = .ok (.aload_n 0, 1) := by decide +kernel
theorem dX0_read_32 : decode cX0_read 32 = .ok (.getfield 9, 3) := by decide +kernel
theorem dX0_read_35 : decode cX0_read 35 = .ok (.iload_n 1, 1) := by decide +kernel
theorem dX0_read_36 : decode cX0_read 36 = .ok (.sipush 400, 3) := by decide +kernel
theorem dX0_read_39 : decode cX0_read 39 = .ok (.imul, 1) := by decide +kernel
theorem dX0_read_40 : decode cX0_read 40 = .ok (.iload_n 3, 1) := by decide +kernel
theorem dX0_read_41 : decode cX0_read 41 = .ok (.iadd, 1) := by decide +kernel
theorem dX0_read_42 : decode cX0_read 42 = .ok (.iaload, 1) := by decide +kernel
theorem dX0_read_43 : decode cX0_read 43 = .ok (.istore 4, 2) := by decide +kernel
theorem dX0_read_45 : decode cX0_read 45 = .ok (.iload 4, 2) := by decide +kernel
theorem dX0_read_47 : decode cX0_read 47 = .ok (.ifCond .le 10, 3) := by decide +kernel
theorem dX0_read_50 : decode cX0_read 50 = .ok (.iload 4, 2) := by decide +kernel
theorem dX0_read_52 : decode cX0_read 52 = .ok (.sipush (-10000), 3) := by decide +kernel
theorem dX0_read_55 : decode cX0_read 55 = .ok (.iadd, 1) := by decide +kernel
theorem dX0_read_56 : decode cX0_read 56 = .ok (.ireturn, 1) := by decide +kernel
theorem dX0_read_57 : decode cX0_read 57 = .ok (.iinc 3 (-1), 3) := by decide +kernel
theorem dX0_read_60 : decode cX0_read 60 = .ok (.goto (-33), 3) := by decide +kernel
theorem dX0_read_63 : decode cX0_read 63 = .ok (.iconst 0, 1) := by decide +kernel
theorem dX0_read_64 : decode cX0_read 64 = .ok (.ireturn, 1) := by decide +kernel
theorem dX0_turn_0 : decode cX0_turn 0 = .ok (.aload_n 0, 1) := by decide +kernel
theorem dX0_turn_1 : decode cX0_turn 1 = .ok (.getfield 18, 3) := by decide +kernel
theorem dX0_turn_4 : decode cX0_turn 4 = .ok (.getfield 22, 3) := by decide +kernel
theorem dX0_turn_7 : decode cX0_turn 7 = .ok (.sipush 399, 3) := by decide +kernel
theorem dX0_turn_10 : decode cX0_turn 10 = .ok (.if_icmp .lt 5, 3) := by decide +kernel
theorem dX0_turn_13 : decode cX0_turn 13 = .ok (.iconst 0, 1) := by decide +kernel
theorem dX0_turn_14 : decode cX0_turn 14 = .ok (.ireturn, 1) := by decide +kernel
theorem dX0_turn_15 : decode cX0_turn 15 = .ok (.aload_n 0, 1) := by decide +kernel
theorem dX0_turn_16 : decode cX0_turn 16 = .ok (.getfield 18, 3) := by decide +kernel
theorem dX0_turn_19 : decode cX0_turn 19 = .ok (.dup, 1) := by decide +kernel
theorem dX0_turn_20 : decode cX0_turn 20 = .ok (.getfield 22, 3) := by decide +kernel
theorem dX0_turn_23 : decode cX0_turn 23 = .ok (.iconst 1, 1) := by decide +kernel
theorem dX0_turn_24 : decode cX0_turn 24 = .ok (.iadd, 1) := by decide +kernel
theorem dX0_turn_25 : decode cX0_turn 25 = .ok (.putfield 22, 3) := by decide +kernel
theorem dX0_turn_28 : decode cX0_turn 28 = .ok (.iconst 1, 1) := by decide +kernel
theorem dX0_turn_29 : decode cX0_turn 29 = .ok (.ireturn, 1) := by decide +kernel
theorem dX1_init_0 : decode cX1_init 0 = .ok (.aload_n 0, 1) := by decide +kernel
theorem dX1_init_1 : decode cX1_init 1 = .ok (.invokespecial 3, 3) := by decide +kernel
theorem dX1_init_4 : decode cX1_init 4 = .ok (.aload_n 0, 1) := by decide +kernel
theorem dX1_init_5 : decode cX1_init 5 = .ok (.bipush 40, 2) := by decide +kernel
theorem dX1_init_7 : decode cX1_init 7 = .ok (.anewarray 9, 3) := by decide +kernel
theorem dX1_init_10 : decode cX1_init 10 = .ok (.putfield 11, 3) := by decide +kernel
theorem dX1_init_13 : decode cX1_init 13 = .ok (.aload_n 0, 1) := by decide +kernel
theorem dX1_init_14 : decode cX1_init 14 = .ok (.aload_n 1, 1) := by decide +kernel
theorem dX1_init_15 : decode cX1_init 15 = .ok (.putfield 17, 3) := by decide +kernel
theorem dX1_init_18 : decode cX1_init 18 = .ok (.aload_n 0, 1) := by decide +kernel
theorem dX1_init_19 : decode cX1_init 19 = .ok (.aload_n 2, 1) := by decide +kernel
theorem dX1_init_20 : decode cX1_init 20 = .ok (.putfield 21, 3) := by decide +kernel
theorem dX1_init_23 : decode cX1_init 23 = .ok (.return_, 1) := by decide +kernel
theorem dX1_size_0 : decode cX1_size 0 = .ok (.aload_n 0, 1) := by decide +kernel
theorem dX1_size_1 : decode cX1_size 1 = .ok (.getfield 25, 3) := by decide +kernel
theorem dX1_size_4 : decode cX1_size 4 = .ok (.ireturn, 1) := by decide +kernel
theorem dX1_lifeAt_0 : decode cX1_lifeAt 0 = .ok (.iload_n 1, 1) := by decide +kernel
theorem dX1_lifeAt_1 : decode cX1_lifeAt 1 = .ok (.ifCond .lt 26, 3) := by decide +kernel
theorem dX1_lifeAt_4 : decode cX1_lifeAt 4 = .ok (.iload_n 1, 1) := by decide +kernel
theorem dX1_lifeAt_5 : decode cX1_lifeAt 5 = .ok (.aload_n 0, 1) := by decide +kernel
theorem dX1_lifeAt_6 : decode cX1_lifeAt 6 = .ok (.getfield 25, 3) := by decide +kernel
theorem dX1_lifeAt_9 : decode cX1_lifeAt 9 = .ok (.if_icmp .ge 18, 3) := by decide +kernel
theorem dX1_lifeAt_12 : decode cX1_lifeAt 12 = .ok (.iload_n 1, 1) := by decide +kernel
theorem dX1_lifeAt_13 : decode cX1_lifeAt 13 = .ok (.bipush 40, 2) := by decide +kernel
theorem dX1_lifeAt_15 : decode cX1_lifeAt 15 = .ok (.if_icmp .ge 12, 3) := by decide +kernel
theorem dX1_lifeAt_18 : decode cX1_lifeAt 18 = .ok (.aload_n 0, 1) := by decide +kernel
theorem dX1_lifeAt_19 : decode cX1_lifeAt 19 = .ok (.getfield 11, 3) := by decide +kernel
theorem dX1_lifeAt_22 : decode cX1_lifeAt 22 = .ok (.iload_n 1, 1) := by decide +kernel
theorem dX1_lifeAt_23 : decode cX1_lifeAt 23 = .ok (.aaload, 1) := by decide +kernel
theorem dX1_lifeAt_24 : decode cX1_lifeAt 24 = .ok (.goto 4, 3) := by decide +kernel
theorem dX1_lifeAt_27 : decode cX1_lifeAt 27 = .ok (.aconst_null, 1) := by decide +kernel
theorem dX1_lifeAt_28 : decode cX1_lifeAt 28 = .ok (.areturn, 1) := by decide +kernel
theorem dX1_wake_0 : decode cX1_wake 0 = .ok (.aload_n 1, 1) := by decide +kernel
theorem dX1_wake_1 : decode cX1_wake 1 = .ok (.ifnonnull 4, 3) := by decide +kernel
theorem dX1_wake_4 : decode cX1_wake 4 = .ok (.return_, 1) := by decide +kernel
theorem dX1_wake_5 : decode cX1_wake 5 = .ok (.iconst 0, 1) := by decide +kernel
theorem dX1_wake_6 : decode cX1_wake 6 = .ok (.istore_n 2, 1) := by decide +kernel
theorem dX1_wake_7 : decode cX1_wake 7 = .ok (.aload_n 1, 1) := by decide +kernel
theorem dX1_wake_8 : decode cX1_wake 8 = .ok (.invokevirtual 88, 3) := by decide +kernel
theorem dX1_wake_11 : decode cX1_wake 11 = .ok (.bipush 40, 2) := by decide +kernel
theorem dX1_wake_13 : decode cX1_wake 13 = .ok (.invokestatic 91, 3) := by decide +kernel
theorem dX1_wake_16 : decode cX1_wake 16 = .ok (.istore_n 3, 1) := by decide +kernel
theorem dX1_wake_17 : decode cX1_wake 17 = .ok (.iload_n 3, 1) := by decide +kernel
theorem dX1_wake_18 : decode cX1_wake 18 = .ok (.ifCond .le 35, 3) := by decide +kernel
theorem dX1_wake_21 : decode cX1_wake 21 = .ok (.aload_n 0, 1) := by decide +kernel
theorem dX1_wake_22 : decode cX1_wake 22 = .ok (.aload_n 1, 1) := by decide +kernel
theorem dX1_wake_23 : decode cX1_wake 23 = .ok (.aload_n 1, 1) := by decide +kernel
theorem dX1_wake_24 : decode cX1_wake 24 = .ok (.iload_n 2, 1) := by decide +kernel
theorem dX1_wake_25 : decode cX1_wake 25 = .ok (.invokevirtual 96, 3) := by decide +kernel
theorem dX1_wake_28 : decode cX1_wake 28 = .ok (.invokevirtual 100, 3) := by decide +kernel
theorem dX1_wake_31 : decode cX1_wake 31 = .ok (.ifCond .eq 9, 3) := by decide +kernel
theorem dX1_wake_34 : decode cX1_wake 34 = .ok (.iinc 2 1, 3) := by decide +kernel
theorem dX1_wake_37 : decode cX1_wake 37 = .ok (.goto 10, 3) := by decide +kernel
theorem dX1_wake_40 : decode cX1_wake 40 = .ok (.aload_n 0, 1) := by decide +kernel
theorem dX1_wake_41 : decode cX1_wake 41 = .ok (.aload_n 1, 1) := by decide +kernel
theorem dX1_wake_42 : decode cX1_wake 42 = .ok (.iload_n 2, 1) := by decide +kernel
theorem dX1_wake_43 : decode cX1_wake 43 = .ok (.iconst 3, 1) := by decide +kernel
theorem dX1_wake_44 : decode cX1_wake 44 = .ok (.invokevirtual 104, 3) := by decide +kernel
theorem dX1_wake_47 : decode cX1_wake 47 = .ok (.iinc 3 (-1), 3) := by decide +kernel
theorem dX1_wake_50 : decode cX1_wake 50 = .ok (.goto (-33), 3) := by decide +kernel
theorem dX1_wake_53 : decode cX1_wake 53 = .ok (.return_, 1) := by decide +kernel
theorem dX1_decide_0 : decode cX1_decide 0 = .ok (.aload_n 0, 1) := by decide +kernel
theorem dX1_decide_1 : decode cX1_decide 1 = .ok (.iload_n 1, 1) := by decide +kernel
theorem dX1_decide_2 : decode cX1_decide 2 = .ok (.invokevirtual 114, 3) := by decide +kernel
theorem dX1_decide_5 : decode cX1_decide 5 = .ok (.astore 6, 2) := by decide +kernel
theorem dX1_decide_7 : decode cX1_decide 7 = .ok (.aload 6, 2) := by decide +kernel
theorem dX1_decide_9 : decode cX1_decide 9 = .ok (.ifnonnull 5, 3) := by decide +kernel
theorem dX1_decide_12 : decode cX1_decide 12 = .ok (.iconst (-1), 1) := by decide +kernel
theorem dX1_decide_13 : decode cX1_decide 13 = .ok (.ireturn, 1) := by decide +kernel
theorem dX1_decide_14 : decode cX1_decide 14 = .ok (.aload 6, 2) := by decide +kernel
theorem dX1_decide_16 : decode cX1_decide 16 = .ok (.getfield 39, 3) := by decide +kernel
theorem dX1_decide_19 : decode cX1_decide 19 = .ok (.astore 7, 2) := by decide +kernel
theorem dX1_decide_21 : decode cX1_decide 21 = .ok (.aload 6, 2) := by decide +kernel
theorem dX1_decide_23 : decode cX1_decide 23 = .ok (.iload_n 2, 1) := by decide +kernel
theorem dX1_decide_24 : decode cX1_decide 24 = .ok (.invokevirtual 96, 3) := by decide +kernel
theorem dX1_decide_27 : decode cX1_decide 27 = .ok (.istore 8, 2) := by decide +kernel
theorem dX1_decide_29 : decode cX1_decide 29 = .ok (.iload 8, 2) := by decide +kernel
theorem dX1_decide_31 : decode cX1_decide 31 = .ok (.iconst (-1), 1) := by decide +kernel
theorem dX1_decide_32 : decode cX1_decide 32 = .ok (.if_icmp .eq 27, 3) := by decide +kernel
theorem dX1_decide_35 : decode cX1_decide 35 = .ok (.aload 7, 2) := by decide +kernel
theorem dX1_decide_37 : decode cX1_decide 37 = .ok (.iload 8, 2) := by decide +kernel
theorem dX1_decide_39 : decode cX1_decide 39 = .ok (.iconst 0, 1) := by decide +kernel
theorem dX1_decide_40 : decode cX1_decide 40 = .ok (.invokevirtual 49, 3) := by decide +kernel
theorem dX1_decide_43 : decode cX1_decide 43 = .ok (.iload 4, 2) := by decide +kernel
theorem dX1_decide_45 : decode cX1_decide 45 = .ok (.if_icmp .ne 14, 3) := by decide +kernel
theorem dX1_decide_48 : decode cX1_decide 48 = .ok (.aload 6, 2) := by decide +kernel
theorem dX1_decide_50 : decode cX1_decide 50 = .ok (.iload 8, 2) := by decide +kernel
theorem dX1_decide_52 : decode cX1_decide 52 = .ok (.invokevirtual 118, 3) := by decide +kernel
theorem dX1_decide_55 : decode cX1_decide 55 = .ok (.iload_n 3, 1) := by decide +kernel
theorem dX1_decide_56 : decode cX1_decide 56 = .ok (.if_icmp .eq 5, 3) := by decide +kernel
theorem dX1_decide_59 : decode cX1_decide 59 = .ok (.iconst (-1), 1) := by decide +kernel
theorem dX1_decide_60 : decode cX1_decide 60 = .ok (.ireturn, 1) := by decide +kernel
theorem dX1_decide_61 : decode cX1_decide 61 = .ok (.aload 7, 2) := by decide +kernel
theorem dX1_decide_63 : decode cX1_decide 63 = .ok (.iload 8, 2) := by decide +kernel
theorem dX1_decide_65 : decode cX1_decide 65 = .ok (.aload_n 0, 1) := by decide +kernel
theorem dX1_decide_66 : decode cX1_decide 66 = .ok (.getfield 17, 3) := by decide +kernel
theorem dX1_decide_69 : decode cX1_decide 69 = .ok (.invokevirtual 43, 3) := by decide +kernel
theorem dX1_decide_72 : decode cX1_decide 72 = .ok (.ifCond .ne 24, 3) := by decide +kernel
theorem dX1_decide_75 : decode cX1_decide 75 = .ok (.iload 4, 2) := by decide +kernel
theorem dX1_decide_77 : decode cX1_decide 77 = .ok (.bipush 7, 2) := by decide +kernel
theorem dX1_decide_79 : decode cX1_decide 79 = .ok (.if_icmp .ne 19, 3) := by decide +kernel
theorem dX1_decide_82 : decode cX1_decide 82 = .ok (.aload 7, 2) := by decide +kernel
theorem dX1_decide_84 : decode cX1_decide 84 = .ok (.iload 8, 2) := by decide +kernel
theorem dX1_decide_86 : decode cX1_decide 86 = .ok (.aload_n 0, 1) := by decide +kernel
theorem dX1_decide_87 : decode cX1_decide 87 = .ok (.getfield 17, 3) := by decide +kernel
theorem dX1_decide_90 : decode cX1_decide 90 = .ok (.invokevirtual 70, 3) := by decide +kernel
theorem dX1_decide_93 : decode cX1_decide 93 = .ok (.ifCond .ne 5, 3) := by decide +kernel
theorem dX1_decide_96 : decode cX1_decide 96 = .ok (.iconst (-1), 1) := by decide +kernel
theorem dX1_decide_97 : decode cX1_decide 97 = .ok (.ireturn, 1) := by decide +kernel
theorem dX1_decide_98 : decode cX1_decide 98 = .ok (.aload_n 0, 1) := by decide +kernel
theorem dX1_decide_99 : decode cX1_decide 99 = .ok (.getfield 21, 3) := by decide +kernel
theorem dX1_decide_102 : decode cX1_decide 102 = .ok (.invokevirtual 121, 3) := by decide +kernel
theorem dX1_decide_105 : decode cX1_decide 105 = .ok (.istore 9, 2) := by decide +kernel
theorem dX1_decide_107 : decode cX1_decide 107 = .ok (.aload_n 0, 1) := by decide +kernel
theorem dX1_decide_108 : decode cX1_decide 108 = .ok (.aload 6, 2) := by decide +kernel
theorem dX1_decide_110 : decode cX1_decide 110 = .ok (.iload_n 2, 1) := by decide +kernel
theorem dX1_decide_111 : decode cX1_decide 111 = .ok (.iload 5, 2) := by decide +kernel
theorem dX1_decide_113 : decode cX1_decide 113 = .ok (.ifCond .ne 7, 3) := by decide +kernel
theorem dX1_decide_116 : decode cX1_decide 116 = .ok (.iconst 3, 1) := by decide +kernel
theorem dX1_decide_117 : decode cX1_decide 117 = .ok (.goto 4, 3) := by decide +kernel
theorem dX1_decide_120 : decode cX1_decide 120 = .ok (.iconst 4, 1) := by decide +kernel
theorem dX1_decide_121 : decode cX1_decide 121 = .ok (.invokevirtual 104, 3) := by decide +kernel
theorem dX1_decide_124 : decode cX1_decide 124 = .ok (.aload_n 0, 1) := by decide +kernel
theorem dX1_decide_125 : decode cX1_decide 125 = .ok (.getfield 21, 3) := by decide +kernel
theorem dX1_decide_128 : decode cX1_decide 128 = .ok (.invokevirtual 121, 3) := by decide +kernel
theorem dX1_decide_131 : decode cX1_decide 131 = .ok (.iload 9, 2) := by decide +kernel
theorem dX1_decide_133 : decode cX1_decide 133 = .ok (.isub, 1) := by decide +kernel
theorem dX1_decide_134 : decode cX1_decide 134 = .ok (.ireturn, 1) := by decide +kernel
theorem dX2_init_0 : decode cX2_init 0 = .ok (.aload_n 0, 1) := by decide +kernel
theorem dX2_init_1 : decode cX2_init 1 = .ok (.invokespecial 3, 3) := by decide +kernel
theorem dX2_init_4 : decode cX2_init 4 = .ok (.aload_n 0, 1) := by decide +kernel
theorem dX2_init_5 : decode cX2_init 5 = .ok (.iload_n 1, 1) := by decide +kernel
theorem dX2_init_6 : decode cX2_init 6 = .ok (.iconst 0, 1) := by decide +kernel
theorem dX2_init_7 : decode cX2_init 7 = .ok (.invokestatic 9, 3) := by decide +kernel
theorem dX2_init_10 : decode cX2_init 10 = .ok (.bipush 13, 2) := by decide +kernel
theorem dX2_init_12 : decode cX2_init 12 = .ok (.imul, 1) := by decide +kernel
theorem dX2_init_13 : decode cX2_init 13 = .ok (.newarray .int, 2) := by decide +kernel
theorem dX2_init_15 : decode cX2_init 15 = .ok (.putfield 15, 3) := by decide +kernel
theorem dX2_init_18 : decode cX2_init 18 = .ok (.aload_n 0, 1) := by decide +kernel
theorem dX2_init_19 : decode cX2_init 19 = .ok (.iload_n 2, 1) := by decide +kernel
theorem dX2_init_20 : decode cX2_init 20 = .ok (.iconst 0, 1) := by decide +kernel
theorem dX2_init_21 : decode cX2_init 21 = .ok (.invokestatic 9, 3) := by decide +kernel
theorem dX2_init_24 : decode cX2_init 24 = .ok (.iconst 2, 1) := by decide +kernel
theorem dX2_init_25 : decode cX2_init 25 = .ok (.imul, 1) := by decide +kernel
theorem dX2_init_26 : decode cX2_init 26 = .ok (.newarray .int, 2) := by decide +kernel
theorem dX2_init_28 : decode cX2_init 28 = .ok (.putfield 21, 3) := by decide +kernel
theorem dX2_init_31 : decode cX2_init 31 = .ok (.return_, 1) := by decide +kernel
theorem dX2_clear_0 : decode cX2_clear 0 = .ok (.aload_n 0, 1) := by decide +kernel
theorem dX2_clear_1 : decode cX2_clear 1 = .ok (.iconst 0, 1) := by decide +kernel
theorem dX2_clear_2 : decode cX2_clear 2 = .ok (.putfield 24, 3) := by decide +kernel
theorem dX2_clear_5 : decode cX2_clear 5 = .ok (.aload_n 0, 1) := by decide +kernel
theorem dX2_clear_6 : decode cX2_clear 6 = .ok (.iconst 0, 1) := by decide +kernel
theorem dX2_clear_7 : decode cX2_clear 7 = .ok (.putfield 28, 3) := by decide +kernel
theorem dX2_clear_10 : decode cX2_clear 10 = .ok (.return_, 1) := by decide +kernel
theorem dX3_init_0 : decode cX3_init 0 = .ok (.aload_n 0, 1) := by decide +kernel
theorem dX3_init_1 : decode cX3_init 1 = .ok (.invokespecial 3, 3) := by decide +kernel
theorem dX3_init_4 : decode cX3_init 4 = .ok (.aload_n 0, 1) := by decide +kernel
theorem dX3_init_5 : decode cX3_init 5 = .ok (.new 9, 3) := by decide +kernel
theorem dX3_init_8 : decode cX3_init 8 = .ok (.dup, 1) := by decide +kernel
theorem dX3_init_9 : decode cX3_init 9 = .ok (.bipush 40, 2) := by decide +kernel
theorem dX3_init_11 : decode cX3_init 11 = .ok (.bipush 40, 2) := by decide +kernel
theorem dX3_init_13 : decode cX3_init 13 = .ok (.invokespecial 11, 3) := by decide +kernel
theorem dX3_init_16 : decode cX3_init 16 = .ok (.putfield 14, 3) := by decide +kernel
theorem dX3_init_19 : decode cX3_init 19 = .ok (.aload_n 0, 1) := by decide +kernel
theorem dX3_init_20 : decode cX3_init 20 = .ok (.bipush 40, 2) := by decide +kernel
theorem dX3_init_22 : decode cX3_init 22 = .ok (.newarray .int, 2) := by decide +kernel
theorem dX3_init_24 : decode cX3_init 24 = .ok (.putfield 20, 3) := by decide +kernel
theorem dX3_init_27 : decode cX3_init 27 = .ok (.return_, 1) := by decide +kernel
theorem dX4_init_0 : decode cX4_init 0 = .ok (.aload_n 0, 1) := by decide +kernel
theorem dX4_init_1 : decode cX4_init 1 = .ok (.invokespecial 3, 3) := by decide +kernel
theorem dX4_init_4 : decode cX4_init 4 = .ok (.aload_n 0, 1) := by decide +kernel
theorem dX4_init_5 : decode cX4_init 5 = .ok (.bipush 96, 2) := by decide +kernel
theorem dX4_init_7 : decode cX4_init 7 = .ok (.newarray .int, 2) := by decide +kernel
theorem dX4_init_9 : decode cX4_init 9 = .ok (.putfield 9, 3) := by decide +kernel
theorem dX4_init_12 : decode cX4_init 12 = .ok (.aload_n 0, 1) := by decide +kernel
theorem dX4_init_13 : decode cX4_init 13 = .ok (.bipush 8, 2) := by decide +kernel
theorem dX4_init_15 : decode cX4_init 15 = .ok (.newarray .long, 2) := by decide +kernel
theorem dX4_init_17 : decode cX4_init 17 = .ok (.putfield 15, 3) := by decide +kernel
theorem dX4_init_20 : decode cX4_init 20 = .ok (.aload_n 0, 1) := by decide +kernel
theorem dX4_init_21 : decode cX4_init 21 = .ok (.bipush 8, 2) := by decide +kernel
theorem dX4_init_23 : decode cX4_init 23 = .ok (.newarray .long, 2) := by decide +kernel
theorem dX4_init_25 : decode cX4_init 25 = .ok (.putfield 19, 3) := by decide +kernel
theorem dX4_init_28 : decode cX4_init 28 = .ok (.aload_n 0, 1) := by decide +kernel
theorem dX4_init_29 : decode cX4_init 29 = .ok (.bipush 8, 2) := by decide +kernel
theorem dX4_init_31 : decode cX4_init 31 = .ok (.newarray .int, 2) := by decide +kernel
theorem dX4_init_33 : decode cX4_init 33 = .ok (.putfield 22, 3) := by decide +kernel
theorem dX4_init_36 : decode cX4_init 36 = .ok (.aload_n 0, 1) := by decide +kernel
theorem dX4_init_37 : decode cX4_init 37 = .ok (.bipush 8, 2) := by decide +kernel
theorem dX4_init_39 : decode cX4_init 39 = .ok (.newarray .int, 2) := by decide +kernel
theorem dX4_init_41 : decode cX4_init 41 = .ok (.putfield 25, 3) := by decide +kernel
theorem dX4_init_44 : decode cX4_init 44 = .ok (.aload_n 0, 1) := by decide +kernel
theorem dX4_init_45 : decode cX4_init 45 = .ok (.bipush 8, 2) := by decide +kernel
theorem dX4_init_47 : decode cX4_init 47 = .ok (.newarray .long, 2) := by decide +kernel
theorem dX4_init_49 : decode cX4_init 49 = .ok (.putfield 28, 3) := by decide +kernel
theorem dX4_init_52 : decode cX4_init 52 = .ok (.aload_n 0, 1) := by decide +kernel
theorem dX4_init_53 : decode cX4_init 53 = .ok (.iconst (-1), 1) := by decide +kernel
theorem dX4_init_54 : decode cX4_init 54 = .ok (.putfield 31, 3) := by decide +kernel
theorem dX4_init_57 : decode cX4_init 57 = .ok (.return_, 1) := by decide +kernel
theorem dX4_size_0 : decode cX4_size 0 = .ok (.aload_n 0, 1) := by decide +kernel
theorem dX4_size_1 : decode cX4_size 1 = .ok (.getfield 35, 3) := by decide +kernel
theorem dX4_size_4 : decode cX4_size 4 = .ok (.ireturn, 1) := by decide +kernel
theorem dX4_entry_0 : decode cX4_entry 0 = .ok (.iload_n 1, 1) := by decide +kernel
theorem dX4_entry_1 : decode cX4_entry 1 = .ok (.ifCond .lt 21, 3) := by decide +kernel
theorem dX4_entry_4 : decode cX4_entry 4 = .ok (.iload_n 1, 1) := by decide +kernel
theorem dX4_entry_5 : decode cX4_entry 5 = .ok (.aload_n 0, 1) := by decide +kernel
theorem dX4_entry_6 : decode cX4_entry 6 = .ok (.getfield 35, 3) := by decide +kernel
theorem dX4_entry_9 : decode cX4_entry 9 = .ok (.if_icmp .ge 13, 3) := by decide +kernel
theorem dX4_entry_12 : decode cX4_entry 12 = .ok (.iload_n 2, 1) := by decide +kernel
theorem dX4_entry_13 : decode cX4_entry 13 = .ok (.ifCond .lt 9, 3) := by decide +kernel
theorem dX4_entry_16 : decode cX4_entry 16 = .ok (.iload_n 2, 1) := by decide +kernel
theorem dX4_entry_17 : decode cX4_entry 17 = .ok (.bipush 6, 2) := by decide +kernel
theorem dX4_entry_19 : decode cX4_entry 19 = .ok (.if_icmp .lt 6, 3) := by decide +kernel
theorem dX4_entry_22 : decode cX4_entry 22 = .ok (.ldc 69, 2) := by decide +kernel
theorem dX4_entry_24 : decode cX4_entry 24 = .ok (.ireturn, 1) := by decide +kernel
theorem dX4_entry_25 : decode cX4_entry 25 = .ok (.iload_n 1, 1) := by decide +kernel
theorem dX4_entry_26 : decode cX4_entry 26 = .ok (.bipush 6, 2) := by decide +kernel
theorem dX4_entry_28 : decode cX4_entry 28 = .ok (.imul, 1) := by decide +kernel
theorem dX4_entry_29 : decode cX4_entry 29 = .ok (.iload_n 2, 1) := by decide +kernel
theorem dX4_entry_30 : decode cX4_entry 30 = .ok (.iadd, 1) := by decide +kernel
theorem dX4_entry_31 : decode cX4_entry 31 = .ok (.istore_n 3, 1) := by decide +kernel
theorem dX4_entry_32 : decode cX4_entry 32 = .ok (.iload_n 3, 1) := by decide +kernel
theorem dX4_entry_33 : decode cX4_entry 33 = .ok (.aload_n 0, 1) := by decide +kernel
theorem dX4_entry_34 : decode cX4_entry 34 = .ok (.getfield 9, 3) := by decide +kernel
theorem dX4_entry_37 : decode cX4_entry 37 = .ok (.arraylength, 1) := by decide +kernel
theorem dX4_entry_38 : decode cX4_entry 38 = .ok (.if_icmp .ge 12, 3) := by decide +kernel
theorem dX4_entry_41 : decode cX4_entry 41 = .ok (.aload_n 0, 1) := by decide +kernel
theorem dX4_entry_42 : decode cX4_entry 42 = .ok (.getfield 9, 3) := by decide +kernel
theorem dX4_entry_45 : decode cX4_entry 45 = .ok (.iload_n 3, 1) := by decide +kernel
theorem dX4_entry_46 : decode cX4_entry 46 = .ok (.iaload, 1) := by decide +kernel
theorem dX4_entry_47 : decode cX4_entry 47 = .ok (.goto 5, 3) := by decide +kernel
theorem dX4_entry_50 : decode cX4_entry 50 = .ok (.ldc 69, 2) := by decide +kernel
theorem dX4_entry_52 : decode cX4_entry 52 = .ok (.ireturn, 1) := by decide +kernel
theorem dX4_settle_0 : decode cX4_settle 0 = .ok (.iconst 0, 1) := by decide +kernel
theorem dX4_settle_1 : decode cX4_settle 1 = .ok (.istore_n 2, 1) := by decide +kernel
theorem dX4_settle_2 : decode cX4_settle 2 = .ok (.iload_n 2, 1) := by decide +kernel
theorem dX4_settle_3 : decode cX4_settle 3 = .ok (.bipush 8, 2) := by decide +kernel
theorem dX4_settle_5 : decode cX4_settle 5 = .ok (.if_icmp .ge 16, 3) := by decide +kernel
theorem dX4_settle_8 : decode cX4_settle 8 = .ok (.aload_n 0, 1) := by decide +kernel
theorem dX4_settle_9 : decode cX4_settle 9 = .ok (.getfield 15, 3) := by decide +kernel
theorem dX4_settle_12 : decode cX4_settle 12 = .ok (.iload_n 2, 1) := by decide +kernel
theorem dX4_settle_13 : decode cX4_settle 13 = .ok (.lconst 0, 1) := by decide +kernel
theorem dX4_settle_14 : decode cX4_settle 14 = .ok (.lastore, 1) := by decide +kernel
theorem dX4_settle_15 : decode cX4_settle 15 = .ok (.iinc 2 1, 3) := by decide +kernel
theorem dX4_settle_18 : decode cX4_settle 18 = .ok (.goto (-16), 3) := by decide +kernel
theorem dX4_settle_21 : decode cX4_settle 21 = .ok (.iconst 0, 1) := by decide +kernel
theorem dX4_settle_22 : decode cX4_settle 22 = .ok (.istore_n 2, 1) := by decide +kernel
theorem dX4_settle_23 : decode cX4_settle 23 = .ok (.iload_n 2, 1) := by decide +kernel
theorem dX4_settle_24 : decode cX4_settle 24 = .ok (.aload_n 0, 1) := by decide +kernel
theorem dX4_settle_25 : decode cX4_settle 25 = .ok (.getfield 35, 3) := by decide +kernel
theorem dX4_settle_28 : decode cX4_settle 28 = .ok (.if_icmp .ge 52, 3) := by decide +kernel
theorem dX4_settle_31 : decode cX4_settle 31 = .ok (.aload_n 0, 1) := by decide +kernel
theorem dX4_settle_32 : decode cX4_settle 32 = .ok (.iload_n 2, 1) := by decide +kernel
theorem dX4_settle_33 : decode cX4_settle 33 = .ok (.iconst 1, 1) := by decide +kernel
theorem dX4_settle_34 : decode cX4_settle 34 = .ok (.invokevirtual 70, 3) := by decide +kernel
theorem dX4_settle_37 : decode cX4_settle 37 = .ok (.iload_n 1, 1) := by decide +kernel
theorem dX4_settle_38 : decode cX4_settle 38 = .ok (.if_icmp .ne 36, 3) := by decide +kernel
theorem dX4_settle_41 : decode cX4_settle 41 = .ok (.aload_n 0, 1) := by decide +kernel
theorem dX4_settle_42 : decode cX4_settle 42 = .ok (.aload_n 0, 1) := by decide +kernel
theorem dX4_settle_43 : decode cX4_settle 43 = .ok (.iload_n 2, 1) := by decide +kernel
theorem dX4_settle_44 : decode cX4_settle 44 = .ok (.iconst 4, 1) := by decide +kernel
theorem dX4_settle_45 : decode cX4_settle 45 = .ok (.invokevirtual 70, 3) := by decide +kernel
theorem dX4_settle_48 : decode cX4_settle 48 = .ok (.aload_n 0, 1) := by decide +kernel
theorem dX4_settle_49 : decode cX4_settle 49 = .ok (.iload_n 2, 1) := by decide +kernel
theorem dX4_settle_50 : decode cX4_settle 50 = .ok (.iconst 2, 1) := by decide +kernel
theorem dX4_settle_51 : decode cX4_settle 51 = .ok (.invokevirtual 70, 3) := by decide +kernel
theorem dX4_settle_54 : decode cX4_settle 54 = .ok (.invokevirtual 73, 3) := by decide +kernel
theorem dX4_settle_57 : decode cX4_settle 57 = .ok (.aload_n 0, 1) := by decide +kernel
theorem dX4_settle_58 : decode cX4_settle 58 = .ok (.aload_n 0, 1) := by decide +kernel
theorem dX4_settle_59 : decode cX4_settle 59 = .ok (.iload_n 2, 1) := by decide +kernel
theorem dX4_settle_60 : decode cX4_settle 60 = .ok (.iconst 5, 1) := by decide +kernel
theorem dX4_settle_61 : decode cX4_settle 61 = .ok (.invokevirtual 70, 3) := by decide +kernel
theorem dX4_settle_64 : decode cX4_settle 64 = .ok (.aload_n 0, 1) := by decide +kernel
theorem dX4_settle_65 : decode cX4_settle 65 = .ok (.iload_n 2, 1) := by decide +kernel
theorem dX4_settle_66 : decode cX4_settle 66 = .ok (.iconst 2, 1) := by decide +kernel
theorem dX4_settle_67 : decode cX4_settle 67 = .ok (.invokevirtual 70, 3) := by decide +kernel
theorem dX4_settle_70 : decode cX4_settle 70 = .ok (.ineg, 1) := by decide +kernel
theorem dX4_settle_71 : decode cX4_settle 71 = .ok (.invokevirtual 73, 3) := by decide +kernel
theorem dX4_settle_74 : decode cX4_settle 74 = .ok (.iinc 2 1, 3) := by decide +kernel
theorem dX4_settle_77 : decode cX4_settle 77 = .ok (.goto (-54), 3) := by decide +kernel
theorem dX4_settle_80 : decode cX4_settle 80 = .ok (.iconst 0, 1) := by decide +kernel
theorem dX4_settle_81 : decode cX4_settle 81 = .ok (.istore_n 2, 1) := by decide +kernel
theorem dX4_settle_82 : decode cX4_settle 82 = .ok (.iload_n 2, 1) := by decide +kernel
theorem dX4_settle_83 : decode cX4_settle 83 = .ok (.bipush 8, 2) := by decide +kernel
theorem dX4_settle_85 : decode cX4_settle 85 = .ok (.if_icmp .ge 21, 3) := by decide +kernel
theorem dX4_settle_88 : decode cX4_settle 88 = .ok (.aload_n 0, 1) := by decide +kernel
theorem dX4_settle_89 : decode cX4_settle 89 = .ok (.getfield 19, 3) := by decide +kernel
theorem dX4_settle_92 : decode cX4_settle 92 = .ok (.iload_n 2, 1) := by decide +kernel
theorem dX4_settle_93 : decode cX4_settle 93 = .ok (.aload_n 0, 1) := by decide +kernel
theorem dX4_settle_94 : decode cX4_settle 94 = .ok (.getfield 15, 3) := by decide +kernel
theorem dX4_settle_97 : decode cX4_settle 97 = .ok (.iload_n 2, 1) := by decide +kernel
theorem dX4_settle_98 : decode cX4_settle 98 = .ok (.laload, 1) := by decide +kernel
theorem dX4_settle_99 : decode cX4_settle 99 = .ok (.lastore, 1) := by decide +kernel
theorem dX4_settle_100 : decode cX4_settle 100 = .ok (.iinc 2 1, 3) := by decide +kernel
theorem dX4_settle_103 : decode cX4_settle 103 = .ok (.goto (-21), 3) := by decide +kernel
theorem dX4_settle_106 : decode cX4_settle 106 = .ok (.aload_n 0, 1) := by decide +kernel
theorem dX4_settle_107 : decode cX4_settle 107 = .ok (.iconst 0, 1) := by decide +kernel
theorem dX4_settle_108 : decode cX4_settle 108 = .ok (.putfield 31, 3) := by decide +kernel
theorem dX4_settle_111 : decode cX4_settle 111 = .ok (.iconst 0, 1) := by decide +kernel
theorem dX4_settle_112 : decode cX4_settle 112 = .ok (.istore_n 2, 1) := by decide +kernel
theorem dX4_settle_113 : decode cX4_settle 113 = .ok (.iload_n 2, 1) := by decide +kernel
theorem dX4_settle_114 : decode cX4_settle 114 = .ok (.bipush 8, 2) := by decide +kernel
theorem dX4_settle_116 : decode cX4_settle 116 = .ok (.if_icmp .ge 26, 3) := by decide +kernel
theorem dX4_settle_119 : decode cX4_settle 119 = .ok (.aload_n 0, 1) := by decide +kernel
theorem dX4_settle_120 : decode cX4_settle 120 = .ok (.invokevirtual 77, 3) := by decide +kernel
theorem dX4_settle_123 : decode cX4_settle 123 = .ok (.ifCond .eq 19, 3) := by decide +kernel
theorem dX4_settle_126 : decode cX4_settle 126 = .ok (.aload_n 0, 1) := by decide +kernel
theorem dX4_settle_127 : decode cX4_settle 127 = .ok (.dup, 1) := by decide +kernel
theorem dX4_settle_128 : decode cX4_settle 128 = .ok (.getfield 31, 3) := by decide +kernel
theorem dX4_settle_131 : decode cX4_settle 131 = .ok (.iconst 1, 1) := by decide +kernel
theorem dX4_settle_132 : decode cX4_settle 132 = .ok (.iadd, 1) := by decide +kernel
theorem dX4_settle_133 : decode cX4_settle 133 = .ok (.putfield 31, 3) := by decide +kernel
theorem dX4_settle_136 : decode cX4_settle 136 = .ok (.iinc 2 1, 3) := by decide +kernel
theorem dX4_settle_139 : decode cX4_settle 139 = .ok (.goto (-26), 3) := by decide +kernel
theorem dX4_settle_142 : decode cX4_settle 142 = .ok (.aload_n 0, 1) := by decide +kernel
theorem dX4_settle_143 : decode cX4_settle 143 = .ok (.getfield 31, 3) := by decide +kernel
theorem dX4_settle_146 : decode cX4_settle 146 = .ok (.ireturn, 1) := by decide +kernel
theorem dX4_addGift_0 : decode cX4_addGift 0 = .ok (.aload_n 0, 1) := by decide +kernel
theorem dX4_addGift_1 : decode cX4_addGift 1 = .ok (.iconst (-1), 1) := by decide +kernel
theorem dX4_addGift_2 : decode cX4_addGift 2 = .ok (.invokevirtual 85, 3) := by decide +kernel
theorem dX4_addGift_5 : decode cX4_addGift 5 = .ok (.istore_n 1, 1) := by decide +kernel
theorem dX4_addGift_6 : decode cX4_addGift 6 = .ok (.aload_n 0, 1) := by decide +kernel
theorem dX4_addGift_7 : decode cX4_addGift 7 = .ok (.iconst 1, 1) := by decide +kernel
theorem dX4_addGift_8 : decode cX4_addGift 8 = .ok (.invokevirtual 85, 3) := by decide +kernel
theorem dX4_addGift_11 : decode cX4_addGift 11 = .ok (.istore_n 2, 1) := by decide +kernel
theorem dX4_addGift_12 : decode cX4_addGift 12 = .ok (.iload_n 1, 1) := by decide +kernel
theorem dX4_addGift_13 : decode cX4_addGift 13 = .ok (.invokestatic 81, 3) := by decide +kernel
theorem dX4_addGift_16 : decode cX4_addGift 16 = .ok (.ifCond .eq 26, 3) := by decide +kernel
theorem dX4_addGift_19 : decode cX4_addGift 19 = .ok (.iload_n 2, 1) := by decide +kernel
theorem dX4_addGift_20 : decode cX4_addGift 20 = .ok (.invokestatic 81, 3) := by decide +kernel
theorem dX4_addGift_23 : decode cX4_addGift 23 = .ok (.ifCond .eq 19, 3) := by decide +kernel
theorem dX4_addGift_26 : decode cX4_addGift 26 = .ok (.aload_n 0, 1) := by decide +kernel
theorem dX4_addGift_27 : decode cX4_addGift 27 = .ok (.getfield 31, 3) := by decide +kernel
theorem dX4_addGift_30 : decode cX4_addGift 30 = .ok (.ifCond .lt 12, 3) := by decide +kernel
theorem dX4_addGift_33 : decode cX4_addGift 33 = .ok (.aload_n 0, 1) := by decide +kernel
theorem dX4_addGift_34 : decode cX4_addGift 34 = .ok (.getfield 31, 3) := by decide +kernel
theorem dX4_addGift_37 : decode cX4_addGift 37 = .ok (.bipush 8, 2) := by decide +kernel
theorem dX4_addGift_39 : decode cX4_addGift 39 = .ok (.if_icmp .lt 5, 3) := by decide +kernel
theorem dX4_addGift_42 : decode cX4_addGift 42 = .ok (.iconst 0, 1) := by decide +kernel
theorem dX4_addGift_43 : decode cX4_addGift 43 = .ok (.ireturn, 1) := by decide +kernel
theorem dX4_addGift_44 : decode cX4_addGift 44 = .ok (.aload_n 0, 1) := by decide +kernel
theorem dX4_addGift_45 : decode cX4_addGift 45 = .ok (.getfield 19, 3) := by decide +kernel
theorem dX4_addGift_48 : decode cX4_addGift 48 = .ok (.iload_n 1, 1) := by decide +kernel
theorem dX4_addGift_49 : decode cX4_addGift 49 = .ok (.laload, 1) := by decide +kernel
theorem dX4_addGift_50 : decode cX4_addGift 50 = .ok (.lneg, 1) := by decide +kernel
theorem dX4_addGift_51 : decode cX4_addGift 51 = .ok (.aload_n 0, 1) := by decide +kernel
theorem dX4_addGift_52 : decode cX4_addGift 52 = .ok (.getfield 19, 3) := by decide +kernel
theorem dX4_addGift_55 : decode cX4_addGift 55 = .ok (.iload_n 2, 1) := by decide +kernel
theorem dX4_addGift_56 : decode cX4_addGift 56 = .ok (.laload, 1) := by decide +kernel
theorem dX4_addGift_57 : decode cX4_addGift 57 = .ok (.invokestatic 89, 3) := by decide +kernel
theorem dX4_addGift_60 : decode cX4_addGift 60 = .ok (.lstore_n 3, 1) := by decide +kernel
theorem dX4_addGift_61 : decode cX4_addGift 61 = .ok (.aload_n 0, 1) := by decide +kernel
theorem dX4_addGift_62 : decode cX4_addGift 62 = .ok (.getfield 19, 3) := by decide +kernel
theorem dX4_addGift_65 : decode cX4_addGift 65 = .ok (.iload_n 1, 1) := by decide +kernel
theorem dX4_addGift_66 : decode cX4_addGift 66 = .ok (.dup2, 1) := by decide +kernel
theorem dX4_addGift_67 : decode cX4_addGift 67 = .ok (.laload, 1) := by decide +kernel
theorem dX4_addGift_68 : decode cX4_addGift 68 = .ok (.lload_n 3, 1) := by decide +kernel
theorem dX4_addGift_69 : decode cX4_addGift 69 = .ok (.ladd, 1) := by decide +kernel
theorem dX4_addGift_70 : decode cX4_addGift 70 = .ok (.lastore, 1) := by decide +kernel
theorem dX4_addGift_71 : decode cX4_addGift 71 = .ok (.aload_n 0, 1) := by decide +kernel
theorem dX4_addGift_72 : decode cX4_addGift 72 = .ok (.getfield 19, 3) := by decide +kernel
theorem dX4_addGift_75 : decode cX4_addGift 75 = .ok (.iload_n 2, 1) := by decide +kernel
theorem dX4_addGift_76 : decode cX4_addGift 76 = .ok (.dup2, 1) := by decide +kernel
theorem dX4_addGift_77 : decode cX4_addGift 77 = .ok (.laload, 1) := by decide +kernel
theorem dX4_addGift_78 : decode cX4_addGift 78 = .ok (.lload_n 3, 1) := by decide +kernel
theorem dX4_addGift_79 : decode cX4_addGift 79 = .ok (.lsub, 1) := by decide +kernel
theorem dX4_addGift_80 : decode cX4_addGift 80 = .ok (.lastore, 1) := by decide +kernel
theorem dX4_addGift_81 : decode cX4_addGift 81 = .ok (.aload_n 0, 1) := by decide +kernel
theorem dX4_addGift_82 : decode cX4_addGift 82 = .ok (.getfield 22, 3) := by decide +kernel
theorem dX4_addGift_85 : decode cX4_addGift 85 = .ok (.aload_n 0, 1) := by decide +kernel
theorem dX4_addGift_86 : decode cX4_addGift 86 = .ok (.getfield 31, 3) := by decide +kernel
theorem dX4_addGift_89 : decode cX4_addGift 89 = .ok (.iload_n 1, 1) := by decide +kernel
theorem dX4_addGift_90 : decode cX4_addGift 90 = .ok (.iastore, 1) := by decide +kernel
theorem dX4_addGift_91 : decode cX4_addGift 91 = .ok (.aload_n 0, 1) := by decide +kernel
theorem dX4_addGift_92 : decode cX4_addGift 92 = .ok (.getfield 25, 3) := by decide +kernel
theorem dX4_addGift_95 : decode cX4_addGift 95 = .ok (.aload_n 0, 1) := by decide +kernel
theorem dX4_addGift_96 : decode cX4_addGift 96 = .ok (.getfield 31, 3) := by decide +kernel
theorem dX4_addGift_99 : decode cX4_addGift 99 = .ok (.iload_n 2, 1) := by decide +kernel
theorem dX4_addGift_100 : decode cX4_addGift 100 = .ok (.iastore, 1) := by decide +kernel
theorem dX4_addGift_101 : decode cX4_addGift 101 = .ok (.aload_n 0, 1) := by decide +kernel
theorem dX4_addGift_102 : decode cX4_addGift 102 = .ok (.getfield 28, 3) := by decide +kernel
theorem dX4_addGift_105 : decode cX4_addGift 105 = .ok (.aload_n 0, 1) := by decide +kernel
theorem dX4_addGift_106 : decode cX4_addGift 106 = .ok (.getfield 31, 3) := by decide +kernel
theorem dX4_addGift_109 : decode cX4_addGift 109 = .ok (.lload_n 3, 1) := by decide +kernel
theorem dX4_addGift_110 : decode cX4_addGift 110 = .ok (.lastore, 1) := by decide +kernel
theorem dX4_addGift_111 : decode cX4_addGift 111 = .ok (.iconst 1, 1) := by decide +kernel
theorem dX4_addGift_112 : decode cX4_addGift 112 = .ok (.ireturn, 1) := by decide +kernel
theorem dX4_leastHouse_0 : decode cX4_leastHouse 0 = .ok (.iconst 0, 1) := by decide +kernel
theorem dX4_leastHouse_1 : decode cX4_leastHouse 1 = .ok (.istore_n 2, 1) := by decide +kernel
theorem dX4_leastHouse_2 : decode cX4_leastHouse 2 = .ok (.iload_n 2, 1) := by decide +kernel
theorem dX4_leastHouse_3 : decode cX4_leastHouse 3 = .ok (.bipush 8, 2) := by decide +kernel
theorem dX4_leastHouse_5 : decode cX4_leastHouse 5 = .ok (.if_icmp .ge 25, 3) := by decide +kernel
theorem dX4_leastHouse_8 : decode cX4_leastHouse 8 = .ok (.aload_n 0, 1) := by decide +kernel
theorem dX4_leastHouse_9 : decode cX4_leastHouse 9 = .ok (.getfield 19, 3) := by decide +kernel
theorem dX4_leastHouse_12 : decode cX4_leastHouse 12 = .ok (.iload_n 2, 1) := by decide +kernel
theorem dX4_leastHouse_13 : decode cX4_leastHouse 13 = .ok (.laload, 1) := by decide +kernel
theorem dX4_leastHouse_14 : decode cX4_leastHouse 14 = .ok (.iload_n 1, 1) := by decide +kernel
theorem dX4_leastHouse_15 : decode cX4_leastHouse 15 = .ok (.i2l, 1) := by decide +kernel
theorem dX4_leastHouse_16 : decode cX4_leastHouse 16 = .ok (.lmul, 1) := by decide +kernel
theorem dX4_leastHouse_17 : decode cX4_leastHouse 17 = .ok (.lconst 0, 1) := by decide +kernel
theorem dX4_leastHouse_18 : decode cX4_leastHouse 18 = .ok (.lcmp, 1) := by decide +kernel
theorem dX4_leastHouse_19 : decode cX4_leastHouse 19 = .ok (.ifCond .le 5, 3) := by decide +kernel
theorem dX4_leastHouse_22 : decode cX4_leastHouse 22 = .ok (.iload_n 2, 1) := by decide +kernel
theorem dX4_leastHouse_23 : decode cX4_leastHouse 23 = .ok (.ireturn, 1) := by decide +kernel
theorem dX4_leastHouse_24 : decode cX4_leastHouse 24 = .ok (.iinc 2 1, 3) := by decide +kernel
theorem dX4_leastHouse_27 : decode cX4_leastHouse 27 = .ok (.goto (-25), 3) := by decide +kernel
theorem dX4_leastHouse_30 : decode cX4_leastHouse 30 = .ok (.iconst (-1), 1) := by decide +kernel
theorem dX4_leastHouse_31 : decode cX4_leastHouse 31 = .ok (.ireturn, 1) := by decide +kernel
theorem dX4_settled_0 : decode cX4_settled 0 = .ok (.aload_n 0, 1) := by decide +kernel
theorem dX4_settled_1 : decode cX4_settled 1 = .ok (.getfield 31, 3) := by decide +kernel
theorem dX4_settled_4 : decode cX4_settled 4 = .ok (.iconst (-1), 1) := by decide +kernel
theorem dX4_settled_5 : decode cX4_settled 5 = .ok (.if_icmp .ne 7, 3) := by decide +kernel
theorem dX4_settled_8 : decode cX4_settled 8 = .ok (.ldc2_w 93, 3) := by decide +kernel
theorem dX4_settled_11 : decode cX4_settled 11 = .ok (.lreturn, 1) := by decide +kernel
theorem dX4_settled_12 : decode cX4_settled 12 = .ok (.iload_n 2, 1) := by decide +kernel
theorem dX4_settled_13 : decode cX4_settled 13 = .ok (.bipush 10, 2) := by decide +kernel
theorem dX4_settled_15 : decode cX4_settled 15 = .ok (.if_icmp .lt 19, 3) := by decide +kernel
theorem dX4_settled_18 : decode cX4_settled 18 = .ok (.iload_n 2, 1) := by decide +kernel
theorem dX4_settled_19 : decode cX4_settled 19 = .ok (.bipush 18, 2) := by decide +kernel
theorem dX4_settled_21 : decode cX4_settled 21 = .ok (.if_icmp .ge 13, 3) := by decide +kernel
theorem dX4_settled_24 : decode cX4_settled 24 = .ok (.aload_n 0, 1) := by decide +kernel
theorem dX4_settled_25 : decode cX4_settled 25 = .ok (.getfield 15, 3) := by decide +kernel
theorem dX4_settled_28 : decode cX4_settled 28 = .ok (.iload_n 2, 1) := by decide +kernel
theorem dX4_settled_29 : decode cX4_settled 29 = .ok (.bipush 10, 2) := by decide +kernel
theorem dX4_settled_31 : decode cX4_settled 31 = .ok (.isub, 1) := by decide +kernel
theorem dX4_settled_32 : decode cX4_settled 32 = .ok (.laload, 1) := by decide +kernel
theorem dX4_settled_33 : decode cX4_settled 33 = .ok (.lreturn, 1) := by decide +kernel
theorem dX4_settled_34 : decode cX4_settled 34 = .ok (.iload_n 1, 1) := by decide +kernel
theorem dX4_settled_35 : decode cX4_settled 35 = .ok (.ifCond .lt 17, 3) := by decide +kernel
theorem dX4_settled_38 : decode cX4_settled 38 = .ok (.iload_n 1, 1) := by decide +kernel
theorem dX4_settled_39 : decode cX4_settled 39 = .ok (.aload_n 0, 1) := by decide +kernel
theorem dX4_settled_40 : decode cX4_settled 40 = .ok (.getfield 31, 3) := by decide +kernel
theorem dX4_settled_43 : decode cX4_settled 43 = .ok (.if_icmp .ge 9, 3) := by decide +kernel
theorem dX4_settled_46 : decode cX4_settled 46 = .ok (.iload_n 1, 1) := by decide +kernel
theorem dX4_settled_47 : decode cX4_settled 47 = .ok (.bipush 8, 2) := by decide +kernel
theorem dX4_settled_49 : decode cX4_settled 49 = .ok (.if_icmp .lt 7, 3) := by decide +kernel
theorem dX4_settled_52 : decode cX4_settled 52 = .ok (.ldc2_w 93, 3) := by decide +kernel
theorem dX4_settled_55 : decode cX4_settled 55 = .ok (.lreturn, 1) := by decide +kernel
theorem dX4_settled_56 : decode cX4_settled 56 = .ok (.iload_n 2, 1) := by decide +kernel
theorem dX4_settled_57 : decode cX4_settled 57 = .ok (.tableswitch 50 0 2 #[27, 35, 43], 27) := by decide +kernel
theorem dX4_settled_84 : decode cX4_settled 84 = .ok (.aload_n 0, 1) := by decide +kernel
theorem dX4_settled_85 : decode cX4_settled 85 = .ok (.getfield 22, 3) := by decide +kernel
theorem dX4_settled_88 : decode cX4_settled 88 = .ok (.iload_n 1, 1) := by decide +kernel
theorem dX4_settled_89 : decode cX4_settled 89 = .ok (.iaload, 1) := by decide +kernel
theorem dX4_settled_90 : decode cX4_settled 90 = .ok (.i2l, 1) := by decide +kernel
theorem dX4_settled_91 : decode cX4_settled 91 = .ok (.lreturn, 1) := by decide +kernel
theorem dX4_settled_92 : decode cX4_settled 92 = .ok (.aload_n 0, 1) := by decide +kernel
theorem dX4_settled_93 : decode cX4_settled 93 = .ok (.getfield 25, 3) := by decide +kernel
theorem dX4_settled_96 : decode cX4_settled 96 = .ok (.iload_n 1, 1) := by decide +kernel
theorem dX4_settled_97 : decode cX4_settled 97 = .ok (.iaload, 1) := by decide +kernel
theorem dX4_settled_98 : decode cX4_settled 98 = .ok (.i2l, 1) := by decide +kernel
theorem dX4_settled_99 : decode cX4_settled 99 = .ok (.lreturn, 1) := by decide +kernel
theorem dX4_settled_100 : decode cX4_settled 100 = .ok (.aload_n 0, 1) := by decide +kernel
theorem dX4_settled_101 : decode cX4_settled 101 = .ok (.getfield 28, 3) := by decide +kernel
theorem dX4_settled_104 : decode cX4_settled 104 = .ok (.iload_n 1, 1) := by decide +kernel
theorem dX4_settled_105 : decode cX4_settled 105 = .ok (.laload, 1) := by decide +kernel
theorem dX4_settled_106 : decode cX4_settled 106 = .ok (.lreturn, 1) := by decide +kernel
theorem dX4_settled_107 : decode cX4_settled 107 = .ok (.ldc2_w 93, 3) := by decide +kernel
theorem dX4_settled_110 : decode cX4_settled 110 = .ok (.lreturn, 1) := by decide +kernel
theorem dX6_init_0 : decode cX6_init 0 = .ok (.aload_n 0, 1) := by decide +kernel
theorem dX6_init_1 : decode cX6_init 1 = .ok (.invokespecial 3, 3) := by decide +kernel
theorem dX6_init_4 : decode cX6_init 4 = .ok (.aload_n 0, 1) := by decide +kernel
theorem dX6_init_5 : decode cX6_init 5 = .ok (.aload_n 1, 1) := by decide +kernel
theorem dX6_init_6 : decode cX6_init 6 = .ok (.putfield 9, 3) := by decide +kernel
theorem dX6_init_9 : decode cX6_init 9 = .ok (.aload_n 0, 1) := by decide +kernel
theorem dX6_init_10 : decode cX6_init 10 = .ok (.aload_n 2, 1) := by decide +kernel
theorem dX6_init_11 : decode cX6_init 11 = .ok (.putfield 15, 3) := by decide +kernel
theorem dX6_init_14 : decode cX6_init 14 = .ok (.return_, 1) := by decide +kernel
theorem dX6_readTape_0 : decode cX6_readTape 0 = .ok (.aload_n 0, 1) := by decide +kernel
theorem dX6_readTape_1 : decode cX6_readTape 1 = .ok (.iconst 0, 1) := by decide +kernel
theorem dX6_readTape_2 : decode cX6_readTape 2 = .ok (.putfield 19, 3) := by decide +kernel
theorem dX6_readTape_5 : decode cX6_readTape 5 = .ok (.aload_n 0, 1) := by decide +kernel
theorem dX6_readTape_6 : decode cX6_readTape 6 = .ok (.iconst 0, 1) := by decide +kernel
theorem dX6_readTape_7 : decode cX6_readTape 7 = .ok (.putfield 23, 3) := by decide +kernel
theorem dX6_readTape_10 : decode cX6_readTape 10 = .ok (.aload_n 0, 1) := by decide +kernel
theorem dX6_readTape_11 : decode cX6_readTape 11 = .ok (.getfield 15, 3) := by decide +kernel
theorem dX6_readTape_14 : decode cX6_readTape 14 = .ok (.invokevirtual 26, 3) := by decide +kernel
theorem dX6_readTape_17 : decode cX6_readTape 17 = .ok (.aload_n 0, 1) := by decide +kernel
theorem dX6_readTape_18 : decode cX6_readTape 18 = .ok (.iconst (-1), 1) := by decide +kernel
theorem dX6_readTape_19 : decode cX6_readTape 19 = .ok (.iconst 0, 1) := by decide +kernel
theorem dX6_readTape_20 : decode cX6_readTape 20 = .ok (.invokevirtual 31, 3) := by decide +kernel
theorem dX6_readTape_23 : decode cX6_readTape 23 = .ok (.ifCond .eq 21, 3) := by decide +kernel
theorem dX6_readTape_26 : decode cX6_readTape 26 = .ok (.aload_n 0, 1) := by decide +kernel
theorem dX6_readTape_27 : decode cX6_readTape 27 = .ok (.invokevirtual 35, 3) := by decide +kernel
theorem dX6_readTape_30 : decode cX6_readTape 30 = .ok (.iconst (-1), 1) := by decide +kernel
theorem dX6_readTape_31 : decode cX6_readTape 31 = .ok (.if_icmp .eq 13, 3) := by decide +kernel
theorem dX6_readTape_34 : decode cX6_readTape 34 = .ok (.aload_n 0, 1) := by decide +kernel
theorem dX6_readTape_35 : decode cX6_readTape 35 = .ok (.aload_n 0, 1) := by decide +kernel
theorem dX6_readTape_36 : decode cX6_readTape 36 = .ok (.getfield 19, 3) := by decide +kernel
theorem dX6_readTape_39 : decode cX6_readTape 39 = .ok (.iconst 0, 1) := by decide +kernel
theorem dX6_readTape_40 : decode cX6_readTape 40 = .ok (.invokevirtual 39, 3) := by decide +kernel
theorem dX6_readTape_43 : decode cX6_readTape 43 = .ok (.pop, 1) := by decide +kernel
theorem dX6_readTape_44 : decode cX6_readTape 44 = .ok (.aload_n 0, 1) := by decide +kernel
theorem dX6_readTape_45 : decode cX6_readTape 45 = .ok (.getfield 23, 3) := by decide +kernel
theorem dX6_readTape_48 : decode cX6_readTape 48 = .ok (.ireturn, 1) := by decide +kernel
theorem dX6_readDeed_0 : decode cX6_readDeed 0 = .ok (.aload_n 0, 1) := by decide +kernel
theorem dX6_readDeed_1 : decode cX6_readDeed 1 = .ok (.invokevirtual 35, 3) := by decide +kernel
theorem dX6_readDeed_4 : decode cX6_readDeed 4 = .ok (.pop, 1) := by decide +kernel
theorem dX6_readDeed_5 : decode cX6_readDeed 5 = .ok (.aload_n 0, 1) := by decide +kernel
theorem dX6_readDeed_6 : decode cX6_readDeed 6 = .ok (.getfield 19, 3) := by decide +kernel
theorem dX6_readDeed_9 : decode cX6_readDeed 9 = .ok (.istore_n 3, 1) := by decide +kernel
theorem dX6_readDeed_10 : decode cX6_readDeed 10 = .ok (.aload_n 0, 1) := by decide +kernel
theorem dX6_readDeed_11 : decode cX6_readDeed 11 = .ok (.iload_n 3, 1) := by decide +kernel
theorem dX6_readDeed_12 : decode cX6_readDeed 12 = .ok (.invokevirtual 65, 3) := by decide +kernel
theorem dX6_readDeed_15 : decode cX6_readDeed 15 = .ok (.istore 4, 2) := by decide +kernel
theorem dX6_readDeed_17 : decode cX6_readDeed 17 = .ok (.aload_n 0, 1) := by decide +kernel
theorem dX6_readDeed_18 : decode cX6_readDeed 18 = .ok (.iload_n 3, 1) := by decide +kernel
theorem dX6_readDeed_19 : decode cX6_readDeed 19 = .ok (.iload 4, 2) := by decide +kernel
theorem dX6_readDeed_21 : decode cX6_readDeed 21 = .ok (.invokevirtual 68, 3) := by decide +kernel
theorem dX6_readDeed_24 : decode cX6_readDeed 24 = .ok (.istore 5, 2) := by decide +kernel
theorem dX6_readDeed_26 : decode cX6_readDeed 26 = .ok (.iload 5, 2) := by decide +kernel
theorem dX6_readDeed_28 : decode cX6_readDeed 28 = .ok (.iconst (-1), 1) := by decide +kernel
theorem dX6_readDeed_29 : decode cX6_readDeed 29 = .ok (.if_icmp .ne 10, 3) := by decide +kernel
theorem dX6_readDeed_32 : decode cX6_readDeed 32 = .ok (.aload_n 0, 1) := by decide +kernel
theorem dX6_readDeed_33 : decode cX6_readDeed 33 = .ok (.iload_n 3, 1) := by decide +kernel
theorem dX6_readDeed_34 : decode cX6_readDeed 34 = .ok (.iconst 0, 1) := by decide +kernel
theorem dX6_readDeed_35 : decode cX6_readDeed 35 = .ok (.invokevirtual 39, 3) := by decide +kernel
theorem dX6_readDeed_38 : decode cX6_readDeed 38 = .ok (.ireturn, 1) := by decide +kernel
theorem dX6_readDeed_39 : decode cX6_readDeed 39 = .ok (.iload_n 2, 1) := by decide +kernel
theorem dX6_readDeed_40 : decode cX6_readDeed 40 = .ok (.bipush 11, 2) := by decide +kernel
theorem dX6_readDeed_42 : decode cX6_readDeed 42 = .ok (.if_icmp .le 10, 3) := by decide +kernel
theorem dX6_readDeed_45 : decode cX6_readDeed 45 = .ok (.aload_n 0, 1) := by decide +kernel
theorem dX6_readDeed_46 : decode cX6_readDeed 46 = .ok (.iload_n 3, 1) := by decide +kernel
theorem dX6_readDeed_47 : decode cX6_readDeed 47 = .ok (.iconst 2, 1) := by decide +kernel
theorem dX6_readDeed_48 : decode cX6_readDeed 48 = .ok (.invokevirtual 39, 3) := by decide +kernel
theorem dX6_readDeed_51 : decode cX6_readDeed 51 = .ok (.ireturn, 1) := by decide +kernel
theorem dX6_readDeed_52 : decode cX6_readDeed 52 = .ok (.aload_n 0, 1) := by decide +kernel
theorem dX6_readDeed_53 : decode cX6_readDeed 53 = .ok (.getfield 15, 3) := by decide +kernel
theorem dX6_readDeed_56 : decode cX6_readDeed 56 = .ok (.iload 5, 2) := by decide +kernel
theorem dX6_readDeed_58 : decode cX6_readDeed 58 = .ok (.iload_n 1, 1) := by decide +kernel
theorem dX6_readDeed_59 : decode cX6_readDeed 59 = .ok (.invokevirtual 71, 3) := by decide +kernel
theorem dX6_readDeed_62 : decode cX6_readDeed 62 = .ok (.istore 6, 2) := by decide +kernel
theorem dX6_readDeed_64 : decode cX6_readDeed 64 = .ok (.iload 6, 2) := by decide +kernel
theorem dX6_readDeed_66 : decode cX6_readDeed 66 = .ok (.iconst (-1), 1) := by decide +kernel
theorem dX6_readDeed_67 : decode cX6_readDeed 67 = .ok (.if_icmp .ne 10, 3) := by decide +kernel
theorem dX6_readDeed_70 : decode cX6_readDeed 70 = .ok (.aload_n 0, 1) := by decide +kernel
theorem dX6_readDeed_71 : decode cX6_readDeed 71 = .ok (.iload_n 3, 1) := by decide +kernel
theorem dX6_readDeed_72 : decode cX6_readDeed 72 = .ok (.iconst 3, 1) := by decide +kernel
theorem dX6_readDeed_73 : decode cX6_readDeed 73 = .ok (.invokevirtual 39, 3) := by decide +kernel
theorem dX6_readDeed_76 : decode cX6_readDeed 76 = .ok (.ireturn, 1) := by decide +kernel
theorem dX6_readDeed_77 : decode cX6_readDeed 77 = .ok (.aload_n 0, 1) := by decide +kernel
theorem dX6_readDeed_78 : decode cX6_readDeed 78 = .ok (.iload_n 3, 1) := by decide +kernel
theorem dX6_readDeed_79 : decode cX6_readDeed 79 = .ok (.iload 4, 2) := by decide +kernel
theorem dX6_readDeed_81 : decode cX6_readDeed 81 = .ok (.iadd, 1) := by decide +kernel
theorem dX6_readDeed_82 : decode cX6_readDeed 82 = .ok (.putfield 19, 3) := by decide +kernel
theorem dX6_readDeed_85 : decode cX6_readDeed 85 = .ok (.iload 5, 2) := by decide +kernel
theorem dX6_readDeed_87 : decode cX6_readDeed 87 = .ok (.invokestatic 74, 3) := by decide +kernel
theorem dX6_readDeed_90 : decode cX6_readDeed 90 = .ok (.ifCond .eq 14, 3) := by decide +kernel
theorem dX6_readDeed_93 : decode cX6_readDeed 93 = .ok (.aload_n 0, 1) := by decide +kernel
theorem dX6_readDeed_94 : decode cX6_readDeed 94 = .ok (.iload 6, 2) := by decide +kernel
theorem dX6_readDeed_96 : decode cX6_readDeed 96 = .ok (.invokevirtual 77, 3) := by decide +kernel
theorem dX6_readDeed_99 : decode cX6_readDeed 99 = .ok (.ifCond .ne 5, 3) := by decide +kernel
theorem dX6_readDeed_102 : decode cX6_readDeed 102 = .ok (.iconst 0, 1) := by decide +kernel
theorem dX6_readDeed_103 : decode cX6_readDeed 103 = .ok (.ireturn, 1) := by decide +kernel
theorem dX6_readDeed_104 : decode cX6_readDeed 104 = .ok (.iload 5, 2) := by decide +kernel
theorem dX6_readDeed_106 : decode cX6_readDeed 106 = .ok (.invokestatic 80, 3) := by decide +kernel
theorem dX6_readDeed_109 : decode cX6_readDeed 109 = .ok (.ifCond .eq 16, 3) := by decide +kernel
theorem dX6_readDeed_112 : decode cX6_readDeed 112 = .ok (.aload_n 0, 1) := by decide +kernel
theorem dX6_readDeed_113 : decode cX6_readDeed 113 = .ok (.iload 5, 2) := by decide +kernel
theorem dX6_readDeed_115 : decode cX6_readDeed 115 = .ok (.iload 6, 2) := by decide +kernel
theorem dX6_readDeed_117 : decode cX6_readDeed 117 = .ok (.invokevirtual 83, 3) := by decide +kernel
theorem dX6_readDeed_120 : decode cX6_readDeed 120 = .ok (.ifCond .ne 5, 3) := by decide +kernel
theorem dX6_readDeed_123 : decode cX6_readDeed 123 = .ok (.iconst 0, 1) := by decide +kernel
theorem dX6_readDeed_124 : decode cX6_readDeed 124 = .ok (.ireturn, 1) := by decide +kernel
theorem dX6_readDeed_125 : decode cX6_readDeed 125 = .ok (.aload_n 0, 1) := by decide +kernel
theorem dX6_readDeed_126 : decode cX6_readDeed 126 = .ok (.iload 5, 2) := by decide +kernel
theorem dX6_readDeed_128 : decode cX6_readDeed 128 = .ok (.iload 6, 2) := by decide +kernel
theorem dX6_readDeed_130 : decode cX6_readDeed 130 = .ok (.iload_n 2, 1) := by decide +kernel
theorem dX6_readDeed_131 : decode cX6_readDeed 131 = .ok (.invokevirtual 86, 3) := by decide +kernel
theorem dX6_readDeed_134 : decode cX6_readDeed 134 = .ok (.ireturn, 1) := by decide +kernel
theorem dX6_upNext_0 : decode cX6_upNext 0 = .ok (.iconst 0, 1) := by decide +kernel
theorem dX6_upNext_1 : decode cX6_upNext 1 = .ok (.istore_n 1, 1) := by decide +kernel
theorem dX6_upNext_2 : decode cX6_upNext 2 = .ok (.iload_n 1, 1) := by decide +kernel
theorem dX6_upNext_3 : decode cX6_upNext 3 = .ok (.sipush 400, 3) := by decide +kernel
theorem dX6_upNext_6 : decode cX6_upNext 6 = .ok (.if_icmp .ge 35, 3) := by decide +kernel
theorem dX6_upNext_9 : decode cX6_upNext 9 = .ok (.aload_n 0, 1) := by decide +kernel
theorem dX6_upNext_10 : decode cX6_upNext 10 = .ok (.getfield 9, 3) := by decide +kernel
theorem dX6_upNext_13 : decode cX6_upNext 13 = .ok (.aload_n 0, 1) := by decide +kernel
theorem dX6_upNext_14 : decode cX6_upNext 14 = .ok (.getfield 19, 3) := by decide +kernel
theorem dX6_upNext_17 : decode cX6_upNext 17 = .ok (.invokevirtual 48, 3) := by decide +kernel
theorem dX6_upNext_20 : decode cX6_upNext 20 = .ok (.bipush 32, 2) := by decide +kernel
theorem dX6_upNext_22 : decode cX6_upNext 22 = .ok (.if_icmp .ne 19, 3) := by decide +kernel
theorem dX6_upNext_25 : decode cX6_upNext 25 = .ok (.aload_n 0, 1) := by decide +kernel
theorem dX6_upNext_26 : decode cX6_upNext 26 = .ok (.dup, 1) := by decide +kernel
theorem dX6_upNext_27 : decode cX6_upNext 27 = .ok (.getfield 19, 3) := by decide +kernel
theorem dX6_upNext_30 : decode cX6_upNext 30 = .ok (.iconst 1, 1) := by decide +kernel
theorem dX6_upNext_31 : decode cX6_upNext 31 = .ok (.iadd, 1) := by decide +kernel
theorem dX6_upNext_32 : decode cX6_upNext 32 = .ok (.putfield 19, 3) := by decide +kernel
theorem dX6_upNext_35 : decode cX6_upNext 35 = .ok (.iinc 1 1, 3) := by decide +kernel
theorem dX6_upNext_38 : decode cX6_upNext 38 = .ok (.goto (-36), 3) := by decide +kernel
theorem dX6_upNext_41 : decode cX6_upNext 41 = .ok (.aload_n 0, 1) := by decide +kernel
theorem dX6_upNext_42 : decode cX6_upNext 42 = .ok (.getfield 9, 3) := by decide +kernel
theorem dX6_upNext_45 : decode cX6_upNext 45 = .ok (.aload_n 0, 1) := by decide +kernel
theorem dX6_upNext_46 : decode cX6_upNext 46 = .ok (.getfield 19, 3) := by decide +kernel
theorem dX6_upNext_49 : decode cX6_upNext 49 = .ok (.invokevirtual 48, 3) := by decide +kernel
theorem dX6_upNext_52 : decode cX6_upNext 52 = .ok (.ireturn, 1) := by decide +kernel
theorem dX6_lettersFrom_0 : decode cX6_lettersFrom 0 = .ok (.iconst 0, 1) := by decide +kernel
theorem dX6_lettersFrom_1 : decode cX6_lettersFrom 1 = .ok (.istore_n 2, 1) := by decide +kernel
theorem dX6_lettersFrom_2 : decode cX6_lettersFrom 2 = .ok (.iload_n 2, 1) := by decide +kernel
theorem dX6_lettersFrom_3 : decode cX6_lettersFrom 3 = .ok (.sipush 400, 3) := by decide +kernel
theorem dX6_lettersFrom_6 : decode cX6_lettersFrom 6 = .ok (.if_icmp .ge 25, 3) := by decide +kernel
theorem dX6_lettersFrom_9 : decode cX6_lettersFrom 9 = .ok (.aload_n 0, 1) := by decide +kernel
theorem dX6_lettersFrom_10 : decode cX6_lettersFrom 10 = .ok (.getfield 9, 3) := by decide +kernel
theorem dX6_lettersFrom_13 : decode cX6_lettersFrom 13 = .ok (.iload_n 1, 1) := by decide +kernel
theorem dX6_lettersFrom_14 : decode cX6_lettersFrom 14 = .ok (.iload_n 2, 1) := by decide +kernel
theorem dX6_lettersFrom_15 : decode cX6_lettersFrom 15 = .ok (.iadd, 1) := by decide +kernel
theorem dX6_lettersFrom_16 : decode cX6_lettersFrom 16 = .ok (.invokevirtual 48, 3) := by decide +kernel
theorem dX6_lettersFrom_19 : decode cX6_lettersFrom 19 = .ok (.invokestatic 54, 3) := by decide +kernel
theorem dX6_lettersFrom_22 : decode cX6_lettersFrom 22 = .ok (.ifCond .eq 9, 3) := by decide +kernel
theorem dX6_lettersFrom_25 : decode cX6_lettersFrom 25 = .ok (.iinc 2 1, 3) := by decide +kernel
theorem dX6_lettersFrom_28 : decode cX6_lettersFrom 28 = .ok (.goto (-26), 3) := by decide +kernel
theorem dX6_lettersFrom_31 : decode cX6_lettersFrom 31 = .ok (.iload_n 2, 1) := by decide +kernel
theorem dX6_lettersFrom_32 : decode cX6_lettersFrom 32 = .ok (.ireturn, 1) := by decide +kernel
theorem dX6_kindFrom_0 : decode cX6_kindFrom 0 = .ok (.iconst 0, 1) := by decide +kernel
theorem dX6_kindFrom_1 : decode cX6_kindFrom 1 = .ok (.istore_n 3, 1) := by decide +kernel
theorem dX6_kindFrom_2 : decode cX6_kindFrom 2 = .ok (.iload_n 3, 1) := by decide +kernel
theorem dX6_kindFrom_3 : decode cX6_kindFrom 3 = .ok (.bipush 11, 2) := by decide +kernel
theorem dX6_kindFrom_5 : decode cX6_kindFrom 5 = .ok (.if_icmp .ge 21, 3) := by decide +kernel
theorem dX6_kindFrom_8 : decode cX6_kindFrom 8 = .ok (.aload_n 0, 1) := by decide +kernel
theorem dX6_kindFrom_9 : decode cX6_kindFrom 9 = .ok (.iload_n 3, 1) := by decide +kernel
theorem dX6_kindFrom_10 : decode cX6_kindFrom 10 = .ok (.iload_n 1, 1) := by decide +kernel
theorem dX6_kindFrom_11 : decode cX6_kindFrom 11 = .ok (.iload_n 2, 1) := by decide +kernel
theorem dX6_kindFrom_12 : decode cX6_kindFrom 12 = .ok (.invokevirtual 61, 3) := by decide +kernel
theorem dX6_kindFrom_15 : decode cX6_kindFrom 15 = .ok (.ifCond .eq 5, 3) := by decide +kernel
theorem dX6_kindFrom_18 : decode cX6_kindFrom 18 = .ok (.iload_n 3, 1) := by decide +kernel
theorem dX6_kindFrom_19 : decode cX6_kindFrom 19 = .ok (.ireturn, 1) := by decide +kernel
theorem dX6_kindFrom_20 : decode cX6_kindFrom 20 = .ok (.iinc 3 1, 3) := by decide +kernel
theorem dX6_kindFrom_23 : decode cX6_kindFrom 23 = .ok (.goto (-21), 3) := by decide +kernel
theorem dX6_kindFrom_26 : decode cX6_kindFrom 26 = .ok (.iconst (-1), 1) := by decide +kernel
theorem dX6_kindFrom_27 : decode cX6_kindFrom 27 = .ok (.ireturn, 1) := by decide +kernel
theorem dX6_isNamed_0 : decode cX6_isNamed 0 = .ok (.iload_n 3, 1) := by decide +kernel
theorem dX6_isNamed_1 : decode cX6_isNamed 1 = .ok (.bipush 8, 2) := by decide +kernel
theorem dX6_isNamed_3 : decode cX6_isNamed 3 = .ok (.if_icmp .lt 5, 3) := by decide +kernel
theorem dX6_isNamed_6 : decode cX6_isNamed 6 = .ok (.iconst 0, 1) := by decide +kernel
theorem dX6_isNamed_7 : decode cX6_isNamed 7 = .ok (.ireturn, 1) := by decide +kernel
theorem dX6_isNamed_8 : decode cX6_isNamed 8 = .ok (.iconst 0, 1) := by decide +kernel
theorem dX6_isNamed_9 : decode cX6_isNamed 9 = .ok (.istore 4, 2) := by decide +kernel
theorem dX6_isNamed_11 : decode cX6_isNamed 11 = .ok (.iload 4, 2) := by decide +kernel
theorem dX6_isNamed_13 : decode cX6_isNamed 13 = .ok (.iload_n 3, 1) := by decide +kernel
theorem dX6_isNamed_14 : decode cX6_isNamed 14 = .ok (.if_icmp .ge 31, 3) := by decide +kernel
theorem dX6_isNamed_17 : decode cX6_isNamed 17 = .ok (.iload_n 1, 1) := by decide +kernel
theorem dX6_isNamed_18 : decode cX6_isNamed 18 = .ok (.iload 4, 2) := by decide +kernel
theorem dX6_isNamed_20 : decode cX6_isNamed 20 = .ok (.invokestatic 58, 3) := by decide +kernel
theorem dX6_isNamed_23 : decode cX6_isNamed 23 = .ok (.aload_n 0, 1) := by decide +kernel
theorem dX6_isNamed_24 : decode cX6_isNamed 24 = .ok (.getfield 9, 3) := by decide +kernel
theorem dX6_isNamed_27 : decode cX6_isNamed 27 = .ok (.iload_n 2, 1) := by decide +kernel
theorem dX6_isNamed_28 : decode cX6_isNamed 28 = .ok (.iload 4, 2) := by decide +kernel
theorem dX6_isNamed_30 : decode cX6_isNamed 30 = .ok (.iadd, 1) := by decide +kernel
theorem dX6_isNamed_31 : decode cX6_isNamed 31 = .ok (.invokevirtual 48, 3) := by decide +kernel
theorem dX6_isNamed_34 : decode cX6_isNamed 34 = .ok (.if_icmp .eq 5, 3) := by decide +kernel
theorem dX6_isNamed_37 : decode cX6_isNamed 37 = .ok (.iconst 0, 1) := by decide +kernel
theorem dX6_isNamed_38 : decode cX6_isNamed 38 = .ok (.ireturn, 1) := by decide +kernel
theorem dX6_isNamed_39 : decode cX6_isNamed 39 = .ok (.iinc 4 1, 3) := by decide +kernel
theorem dX6_isNamed_42 : decode cX6_isNamed 42 = .ok (.goto (-31), 3) := by decide +kernel
theorem dX6_isNamed_45 : decode cX6_isNamed 45 = .ok (.iload_n 3, 1) := by decide +kernel
theorem dX6_isNamed_46 : decode cX6_isNamed 46 = .ok (.ifCond .le 17, 3) := by decide +kernel
theorem dX6_isNamed_49 : decode cX6_isNamed 49 = .ok (.iload_n 1, 1) := by decide +kernel
theorem dX6_isNamed_50 : decode cX6_isNamed 50 = .ok (.iload_n 3, 1) := by decide +kernel
theorem dX6_isNamed_51 : decode cX6_isNamed 51 = .ok (.invokestatic 58, 3) := by decide +kernel
theorem dX6_isNamed_54 : decode cX6_isNamed 54 = .ok (.bipush 32, 2) := by decide +kernel
theorem dX6_isNamed_56 : decode cX6_isNamed 56 = .ok (.if_icmp .ne 7, 3) := by decide +kernel
theorem dX6_isNamed_59 : decode cX6_isNamed 59 = .ok (.iconst 1, 1) := by decide +kernel
theorem dX6_isNamed_60 : decode cX6_isNamed 60 = .ok (.goto 4, 3) := by decide +kernel
theorem dX6_isNamed_63 : decode cX6_isNamed 63 = .ok (.iconst 0, 1) := by decide +kernel
theorem dX6_isNamed_64 : decode cX6_isNamed 64 = .ok (.ireturn, 1) := by decide +kernel
theorem dX6_fail_0 : decode cX6_fail 0 = .ok (.iconst 1, 1) := by decide +kernel
theorem dX6_fail_1 : decode cX6_fail 1 = .ok (.bipush 8, 2) := by decide +kernel
theorem dX6_fail_3 : decode cX6_fail 3 = .ok (.iload_n 1, 1) := by decide +kernel
theorem dX6_fail_4 : decode cX6_fail 4 = .ok (.imul, 1) := by decide +kernel
theorem dX6_fail_5 : decode cX6_fail 5 = .ok (.iadd, 1) := by decide +kernel
theorem dX6_fail_6 : decode cX6_fail 6 = .ok (.iload_n 2, 1) := by decide +kernel
theorem dX6_fail_7 : decode cX6_fail 7 = .ok (.iadd, 1) := by decide +kernel
theorem dX6_fail_8 : decode cX6_fail 8 = .ok (.istore_n 3, 1) := by decide +kernel
theorem dX6_fail_9 : decode cX6_fail 9 = .ok (.aload_n 0, 1) := by decide +kernel
theorem dX6_fail_10 : decode cX6_fail 10 = .ok (.aload_n 0, 1) := by decide +kernel
theorem dX6_fail_11 : decode cX6_fail 11 = .ok (.getfield 23, 3) := by decide +kernel
theorem dX6_fail_14 : decode cX6_fail 14 = .ok (.ifCond .ne 7, 3) := by decide +kernel
theorem dX6_fail_17 : decode cX6_fail 17 = .ok (.iload_n 3, 1) := by decide +kernel
theorem dX6_fail_18 : decode cX6_fail 18 = .ok (.goto 11, 3) := by decide +kernel
theorem dX6_fail_21 : decode cX6_fail 21 = .ok (.aload_n 0, 1) := by decide +kernel
theorem dX6_fail_22 : decode cX6_fail 22 = .ok (.getfield 23, 3) := by decide +kernel
theorem dX6_fail_25 : decode cX6_fail 25 = .ok (.iload_n 3, 1) := by decide +kernel
theorem dX6_fail_26 : decode cX6_fail 26 = .ok (.invokestatic 42, 3) := by decide +kernel
theorem dX6_fail_29 : decode cX6_fail 29 = .ok (.putfield 23, 3) := by decide +kernel
theorem dX6_fail_32 : decode cX6_fail 32 = .ok (.iconst 0, 1) := by decide +kernel
theorem dX6_fail_33 : decode cX6_fail 33 = .ok (.ireturn, 1) := by decide +kernel
theorem dX7_init_0 : decode cX7_init 0 = .ok (.aload_n 0, 1) := by decide +kernel
theorem dX7_init_1 : decode cX7_init 1 = .ok (.invokespecial 3, 3) := by decide +kernel
theorem dX7_init_4 : decode cX7_init 4 = .ok (.aload_n 0, 1) := by decide +kernel
theorem dX7_init_5 : decode cX7_init 5 = .ok (.bipush 6, 2) := by decide +kernel
theorem dX7_init_7 : decode cX7_init 7 = .ok (.newarray .int, 2) := by decide +kernel
theorem dX7_init_9 : decode cX7_init 9 = .ok (.putfield 9, 3) := by decide +kernel
theorem dX7_init_12 : decode cX7_init 12 = .ok (.return_, 1) := by decide +kernel
theorem dX7_setThing_0 : decode cX7_setThing 0 = .ok (.iload_n 1, 1) := by decide +kernel
theorem dX7_setThing_1 : decode cX7_setThing 1 = .ok (.ifCond .lt 16, 3) := by decide +kernel
theorem dX7_setThing_4 : decode cX7_setThing 4 = .ok (.iload_n 1, 1) := by decide +kernel
theorem dX7_setThing_5 : decode cX7_setThing 5 = .ok (.bipush 6, 2) := by decide +kernel
theorem dX7_setThing_7 : decode cX7_setThing 7 = .ok (.if_icmp .ge 10, 3) := by decide +kernel
theorem dX7_setThing_10 : decode cX7_setThing 10 = .ok (.aload_n 0, 1) := by decide +kernel
theorem dX7_setThing_11 : decode cX7_setThing 11 = .ok (.getfield 9, 3) := by decide +kernel
theorem dX7_setThing_14 : decode cX7_setThing 14 = .ok (.iload_n 1, 1) := by decide +kernel
theorem dX7_setThing_15 : decode cX7_setThing 15 = .ok (.iload_n 2, 1) := by decide +kernel
theorem dX7_setThing_16 : decode cX7_setThing 16 = .ok (.iastore, 1) := by decide +kernel
theorem dX7_setThing_17 : decode cX7_setThing 17 = .ok (.return_, 1) := by decide +kernel
theorem dX8_init_0 : decode cX8_init 0 = .ok (.aload_n 0, 1) := by decide +kernel
theorem dX8_init_1 : decode cX8_init 1 = .ok (.invokespecial 3, 3) := by decide +kernel
theorem dX8_init_4 : decode cX8_init 4 = .ok (.aload_n 0, 1) := by decide +kernel
theorem dX8_init_5 : decode cX8_init 5 = .ok (.aload_n 1, 1) := by decide +kernel
theorem dX8_init_6 : decode cX8_init 6 = .ok (.putfield 9, 3) := by decide +kernel
theorem dX8_init_9 : decode cX8_init 9 = .ok (.return_, 1) := by decide +kernel
theorem dX9_init_0 : decode cX9_init 0 = .ok (.aload_n 0, 1) := by decide +kernel
theorem dX9_init_1 : decode cX9_init 1 = .ok (.invokespecial 3, 3) := by decide +kernel
theorem dX9_init_4 : decode cX9_init 4 = .ok (.aload_n 0, 1) := by decide +kernel
theorem dX9_init_5 : decode cX9_init 5 = .ok (.iload_n 1, 1) := by decide +kernel
theorem dX9_init_6 : decode cX9_init 6 = .ok (.iconst 0, 1) := by decide +kernel
theorem dX9_init_7 : decode cX9_init 7 = .ok (.invokestatic 9, 3) := by decide +kernel
theorem dX9_init_10 : decode cX9_init 10 = .ok (.newarray .byte, 2) := by decide +kernel
theorem dX9_init_12 : decode cX9_init 12 = .ok (.putfield 15, 3) := by decide +kernel
theorem dX9_init_15 : decode cX9_init 15 = .ok (.return_, 1) := by decide +kernel
theorem dX9_size_0 : decode cX9_size 0 = .ok (.aload_n 0, 1) := by decide +kernel
theorem dX9_size_1 : decode cX9_size 1 = .ok (.getfield 21, 3) := by decide +kernel
theorem dX9_size_4 : decode cX9_size 4 = .ok (.ireturn, 1) := by decide +kernel
theorem dX9_at_0 : decode cX9_at 0 = .ok (.iload_n 1, 1) := by decide +kernel
theorem dX9_at_1 : decode cX9_at 1 = .ok (.ifCond .lt 33, 3) := by decide +kernel
theorem dX9_at_4 : decode cX9_at 4 = .ok (.iload_n 1, 1) := by decide +kernel
theorem dX9_at_5 : decode cX9_at 5 = .ok (.aload_n 0, 1) := by decide +kernel
theorem dX9_at_6 : decode cX9_at 6 = .ok (.getfield 21, 3) := by decide +kernel
theorem dX9_at_9 : decode cX9_at 9 = .ok (.if_icmp .ge 25, 3) := by decide +kernel
theorem dX9_at_12 : decode cX9_at 12 = .ok (.iload_n 1, 1) := by decide +kernel
theorem dX9_at_13 : decode cX9_at 13 = .ok (.aload_n 0, 1) := by decide +kernel
theorem dX9_at_14 : decode cX9_at 14 = .ok (.getfield 15, 3) := by decide +kernel
theorem dX9_at_17 : decode cX9_at 17 = .ok (.arraylength, 1) := by decide +kernel
theorem dX9_at_18 : decode cX9_at 18 = .ok (.if_icmp .ge 16, 3) := by decide +kernel
theorem dX9_at_21 : decode cX9_at 21 = .ok (.aload_n 0, 1) := by decide +kernel
theorem dX9_at_22 : decode cX9_at 22 = .ok (.getfield 15, 3) := by decide +kernel
theorem dX9_at_25 : decode cX9_at 25 = .ok (.iload_n 1, 1) := by decide +kernel
theorem dX9_at_26 : decode cX9_at 26 = .ok (.baload, 1) := by decide +kernel
theorem dX9_at_27 : decode cX9_at 27 = .ok (.sipush 255, 3) := by decide +kernel
theorem dX9_at_30 : decode cX9_at 30 = .ok (.iand, 1) := by decide +kernel
theorem dX9_at_31 : decode cX9_at 31 = .ok (.goto 4, 3) := by decide +kernel
theorem dX9_at_34 : decode cX9_at 34 = .ok (.iconst (-1), 1) := by decide +kernel
theorem dX9_at_35 : decode cX9_at 35 = .ok (.ireturn, 1) := by decide +kernel
theorem dX9_put_0 : decode cX9_put 0 = .ok (.aload_n 0, 1) := by decide +kernel
theorem dX9_put_1 : decode cX9_put 1 = .ok (.getfield 21, 3) := by decide +kernel
theorem dX9_put_4 : decode cX9_put 4 = .ok (.ifCond .lt 36, 3) := by decide +kernel
theorem dX9_put_7 : decode cX9_put 7 = .ok (.aload_n 0, 1) := by decide +kernel
theorem dX9_put_8 : decode cX9_put 8 = .ok (.getfield 21, 3) := by decide +kernel
theorem dX9_put_11 : decode cX9_put 11 = .ok (.aload_n 0, 1) := by decide +kernel
theorem dX9_put_12 : decode cX9_put 12 = .ok (.getfield 15, 3) := by decide +kernel
theorem dX9_put_15 : decode cX9_put 15 = .ok (.arraylength, 1) := by decide +kernel
theorem dX9_put_16 : decode cX9_put 16 = .ok (.if_icmp .ge 24, 3) := by decide +kernel
theorem dX9_put_19 : decode cX9_put 19 = .ok (.aload_n 0, 1) := by decide +kernel
theorem dX9_put_20 : decode cX9_put 20 = .ok (.getfield 15, 3) := by decide +kernel
theorem dX9_put_23 : decode cX9_put 23 = .ok (.aload_n 0, 1) := by decide +kernel
theorem dX9_put_24 : decode cX9_put 24 = .ok (.getfield 21, 3) := by decide +kernel
theorem dX9_put_27 : decode cX9_put 27 = .ok (.iload_n 1, 1) := by decide +kernel
theorem dX9_put_28 : decode cX9_put 28 = .ok (.i2b, 1) := by decide +kernel
theorem dX9_put_29 : decode cX9_put 29 = .ok (.bastore, 1) := by decide +kernel
theorem dX9_put_30 : decode cX9_put 30 = .ok (.aload_n 0, 1) := by decide +kernel
theorem dX9_put_31 : decode cX9_put 31 = .ok (.dup, 1) := by decide +kernel
theorem dX9_put_32 : decode cX9_put 32 = .ok (.getfield 21, 3) := by decide +kernel
theorem dX9_put_35 : decode cX9_put 35 = .ok (.iconst 1, 1) := by decide +kernel
theorem dX9_put_36 : decode cX9_put 36 = .ok (.iadd, 1) := by decide +kernel
theorem dX9_put_37 : decode cX9_put 37 = .ok (.putfield 21, 3) := by decide +kernel
theorem dX9_put_40 : decode cX9_put 40 = .ok (.return_, 1) := by decide +kernel
theorem dX9_putNumber_0 : decode cX9_putNumber 0 = .ok (.bipush 24, 2) := by decide +kernel
theorem dX9_putNumber_2 : decode cX9_putNumber 2 = .ok (.istore_n 2, 1) := by decide +kernel
theorem dX9_putNumber_3 : decode cX9_putNumber 3 = .ok (.iload_n 2, 1) := by decide +kernel
theorem dX9_putNumber_4 : decode cX9_putNumber 4 = .ok (.ifCond .lt 16, 3) := by decide +kernel
theorem dX9_putNumber_7 : decode cX9_putNumber 7 = .ok (.aload_n 0, 1) := by decide +kernel
theorem dX9_putNumber_8 : decode cX9_putNumber 8 = .ok (.iload_n 1, 1) := by decide +kernel
theorem dX9_putNumber_9 : decode cX9_putNumber 9 = .ok (.iload_n 2, 1) := by decide +kernel
theorem dX9_putNumber_10 : decode cX9_putNumber 10 = .ok (.ishr, 1) := by decide +kernel
theorem dX9_putNumber_11 : decode cX9_putNumber 11 = .ok (.invokevirtual 25, 3) := by decide +kernel
theorem dX9_putNumber_14 : decode cX9_putNumber 14 = .ok (.iinc 2 (-8), 3) := by decide +kernel
theorem dX9_putNumber_17 : decode cX9_putNumber 17 = .ok (.goto (-14), 3) := by decide +kernel
theorem dX9_putNumber_20 : decode cX9_putNumber 20 = .ok (.return_, 1) := by decide +kernel
theorem dX9_cut_0 : decode cX9_cut 0 = .ok (.iload_n 1, 1) := by decide +kernel
theorem dX9_cut_1 : decode cX9_cut 1 = .ok (.ifCond .lt 16, 3) := by decide +kernel
theorem dX9_cut_4 : decode cX9_cut 4 = .ok (.iload_n 1, 1) := by decide +kernel
theorem dX9_cut_5 : decode cX9_cut 5 = .ok (.aload_n 0, 1) := by decide +kernel
theorem dX9_cut_6 : decode cX9_cut 6 = .ok (.getfield 21, 3) := by decide +kernel
theorem dX9_cut_9 : decode cX9_cut 9 = .ok (.if_icmp .gt 8, 3) := by decide +kernel
theorem dX9_cut_12 : decode cX9_cut 12 = .ok (.aload_n 0, 1) := by decide +kernel
theorem dX9_cut_13 : decode cX9_cut 13 = .ok (.iload_n 1, 1) := by decide +kernel
theorem dX9_cut_14 : decode cX9_cut 14 = .ok (.putfield 21, 3) := by decide +kernel
theorem dX9_cut_17 : decode cX9_cut 17 = .ok (.return_, 1) := by decide +kernel
theorem dX10_init_0 : decode cX10_init 0 = .ok (.aload_n 0, 1) := by decide +kernel
theorem dX10_init_1 : decode cX10_init 1 = .ok (.invokespecial 3, 3) := by decide +kernel
theorem dX10_init_4 : decode cX10_init 4 = .ok (.aload_n 0, 1) := by decide +kernel
theorem dX10_init_5 : decode cX10_init 5 = .ok (.iconst 1, 1) := by decide +kernel
theorem dX10_init_6 : decode cX10_init 6 = .ok (.putfield 9, 3) := by decide +kernel
theorem dX10_init_9 : decode cX10_init 9 = .ok (.aload_n 0, 1) := by decide +kernel
theorem dX10_init_10 : decode cX10_init 10 = .ok (.iconst 3, 1) := by decide +kernel
theorem dX10_init_11 : decode cX10_init 11 = .ok (.newarray .int, 2) := by decide +kernel
theorem dX10_init_13 : decode cX10_init 13 = .ok (.putfield 15, 3) := by decide +kernel
theorem dX10_init_16 : decode cX10_init 16 = .ok (.aload_n 0, 1) := by decide +kernel
theorem dX10_init_17 : decode cX10_init 17 = .ok (.bipush 18, 2) := by decide +kernel
theorem dX10_init_19 : decode cX10_init 19 = .ok (.newarray .int, 2) := by decide +kernel
theorem dX10_init_21 : decode cX10_init 21 = .ok (.putfield 19, 3) := by decide +kernel
theorem dX10_init_24 : decode cX10_init 24 = .ok (.aload_n 0, 1) := by decide +kernel
theorem dX10_init_25 : decode cX10_init 25 = .ok (.iconst 5, 1) := by decide +kernel
theorem dX10_init_26 : decode cX10_init 26 = .ok (.anewarray 22, 3) := by decide +kernel
theorem dX10_init_29 : decode cX10_init 29 = .ok (.putfield 24, 3) := by decide +kernel
theorem dX10_init_32 : decode cX10_init 32 = .ok (.aload_n 0, 1) := by decide +kernel
theorem dX10_init_33 : decode cX10_init 33 = .ok (.iconst 5, 1) := by decide +kernel
theorem dX10_init_34 : decode cX10_init 34 = .ok (.newarray .long, 2) := by decide +kernel
theorem dX10_init_36 : decode cX10_init 36 = .ok (.putfield 28, 3) := by decide +kernel
theorem dX10_init_39 : decode cX10_init 39 = .ok (.aload_n 0, 1) := by decide +kernel
theorem dX10_init_40 : decode cX10_init 40 = .ok (.new 32, 3) := by decide +kernel
theorem dX10_init_43 : decode cX10_init 43 = .ok (.dup, 1) := by decide +kernel
theorem dX10_init_44 : decode cX10_init 44 = .ok (.iconst 0, 1) := by decide +kernel
theorem dX10_init_45 : decode cX10_init 45 = .ok (.iconst 0, 1) := by decide +kernel
theorem dX10_init_46 : decode cX10_init 46 = .ok (.invokespecial 34, 3) := by decide +kernel
theorem dX10_init_49 : decode cX10_init 49 = .ok (.putfield 37, 3) := by decide +kernel
theorem dX10_init_52 : decode cX10_init 52 = .ok (.aload_n 0, 1) := by decide +kernel
theorem dX10_init_53 : decode cX10_init 53 = .ok (.aload_n 1, 1) := by decide +kernel
theorem dX10_init_54 : decode cX10_init 54 = .ok (.putfield 41, 3) := by decide +kernel
theorem dX10_init_57 : decode cX10_init 57 = .ok (.iconst 0, 1) := by decide +kernel
theorem dX10_init_58 : decode cX10_init 58 = .ok (.istore_n 2, 1) := by decide +kernel
theorem dX10_init_59 : decode cX10_init 59 = .ok (.iload_n 2, 1) := by decide +kernel
theorem dX10_init_60 : decode cX10_init 60 = .ok (.aload_n 0, 1) := by decide +kernel
theorem dX10_init_61 : decode cX10_init 61 = .ok (.getfield 24, 3) := by decide +kernel
theorem dX10_init_64 : decode cX10_init 64 = .ok (.arraylength, 1) := by decide +kernel
theorem dX10_init_65 : decode cX10_init 65 = .ok (.if_icmp .ge 22, 3) := by decide +kernel
theorem dX10_init_68 : decode cX10_init 68 = .ok (.aload_n 0, 1) := by decide +kernel
theorem dX10_init_69 : decode cX10_init 69 = .ok (.getfield 24, 3) := by decide +kernel
theorem dX10_init_72 : decode cX10_init 72 = .ok (.iload_n 2, 1) := by decide +kernel
theorem dX10_init_73 : decode cX10_init 73 = .ok (.new 22, 3) := by decide +kernel
theorem dX10_init_76 : decode cX10_init 76 = .ok (.dup, 1) := by decide +kernel
theorem dX10_init_77 : decode cX10_init 77 = .ok (.invokespecial 45, 3) := by decide +kernel
theorem dX10_init_80 : decode cX10_init 80 = .ok (.aastore, 1) := by decide +kernel
theorem dX10_init_81 : decode cX10_init 81 = .ok (.iinc 2 1, 3) := by decide +kernel
theorem dX10_init_84 : decode cX10_init 84 = .ok (.goto (-25), 3) := by decide +kernel
theorem dX10_init_87 : decode cX10_init 87 = .ok (.aload_n 0, 1) := by decide +kernel
theorem dX10_init_88 : decode cX10_init 88 = .ok (.getfield 15, 3) := by decide +kernel
theorem dX10_init_91 : decode cX10_init 91 = .ok (.iconst 0, 1) := by decide +kernel
theorem dX10_init_92 : decode cX10_init 92 = .ok (.iconst 1, 1) := by decide +kernel
theorem dX10_init_93 : decode cX10_init 93 = .ok (.iastore, 1) := by decide +kernel
theorem dX10_init_94 : decode cX10_init 94 = .ok (.return_, 1) := by decide +kernel
theorem dX10_size_0 : decode cX10_size 0 = .ok (.aload_n 0, 1) := by decide +kernel
theorem dX10_size_1 : decode cX10_size 1 = .ok (.getfield 9, 3) := by decide +kernel
theorem dX10_size_4 : decode cX10_size 4 = .ok (.ireturn, 1) := by decide +kernel
theorem dX10_renew_0 : decode cX10_renew 0 = .ok (.aload_n 0, 1) := by decide +kernel
theorem dX10_renew_1 : decode cX10_renew 1 = .ok (.iload_n 1, 1) := by decide +kernel
theorem dX10_renew_2 : decode cX10_renew 2 = .ok (.putfield 9, 3) := by decide +kernel
theorem dX10_renew_5 : decode cX10_renew 5 = .ok (.iconst 0, 1) := by decide +kernel
theorem dX10_renew_6 : decode cX10_renew 6 = .ok (.istore_n 2, 1) := by decide +kernel
theorem dX10_renew_7 : decode cX10_renew 7 = .ok (.iload_n 2, 1) := by decide +kernel
theorem dX10_renew_8 : decode cX10_renew 8 = .ok (.iconst 3, 1) := by decide +kernel
theorem dX10_renew_9 : decode cX10_renew 9 = .ok (.if_icmp .ge 16, 3) := by decide +kernel
theorem dX10_renew_12 : decode cX10_renew 12 = .ok (.aload_n 0, 1) := by decide +kernel
theorem dX10_renew_13 : decode cX10_renew 13 = .ok (.getfield 15, 3) := by decide +kernel
theorem dX10_renew_16 : decode cX10_renew 16 = .ok (.iload_n 2, 1) := by decide +kernel
theorem dX10_renew_17 : decode cX10_renew 17 = .ok (.iconst 1, 1) := by decide +kernel
theorem dX10_renew_18 : decode cX10_renew 18 = .ok (.iastore, 1) := by decide +kernel
theorem dX10_renew_19 : decode cX10_renew 19 = .ok (.iinc 2 1, 3) := by decide +kernel
theorem dX10_renew_22 : decode cX10_renew 22 = .ok (.goto (-15), 3) := by decide +kernel
theorem dX10_renew_25 : decode cX10_renew 25 = .ok (.iconst 0, 1) := by decide +kernel
theorem dX10_renew_26 : decode cX10_renew 26 = .ok (.istore_n 2, 1) := by decide +kernel
theorem dX10_renew_27 : decode cX10_renew 27 = .ok (.iload_n 2, 1) := by decide +kernel
theorem dX10_renew_28 : decode cX10_renew 28 = .ok (.aload_n 0, 1) := by decide +kernel
theorem dX10_renew_29 : decode cX10_renew 29 = .ok (.getfield 19, 3) := by decide +kernel
theorem dX10_renew_32 : decode cX10_renew 32 = .ok (.arraylength, 1) := by decide +kernel
theorem dX10_renew_33 : decode cX10_renew 33 = .ok (.if_icmp .ge 16, 3) := by decide +kernel
theorem dX10_renew_36 : decode cX10_renew 36 = .ok (.aload_n 0, 1) := by decide +kernel
theorem dX10_renew_37 : decode cX10_renew 37 = .ok (.getfield 19, 3) := by decide +kernel
theorem dX10_renew_40 : decode cX10_renew 40 = .ok (.iload_n 2, 1) := by decide +kernel
theorem dX10_renew_41 : decode cX10_renew 41 = .ok (.iconst 0, 1) := by decide +kernel
theorem dX10_renew_42 : decode cX10_renew 42 = .ok (.iastore, 1) := by decide +kernel
theorem dX10_renew_43 : decode cX10_renew 43 = .ok (.iinc 2 1, 3) := by decide +kernel
theorem dX10_renew_46 : decode cX10_renew 46 = .ok (.goto (-19), 3) := by decide +kernel
theorem dX10_renew_49 : decode cX10_renew 49 = .ok (.return_, 1) := by decide +kernel
theorem dX10_weigh_0 : decode cX10_weigh 0 = .ok (.iload_n 1, 1) := by decide +kernel
theorem dX10_weigh_1 : decode cX10_weigh 1 = .ok (.ifCond .lt 26, 3) := by decide +kernel
theorem dX10_weigh_4 : decode cX10_weigh 4 = .ok (.iload_n 1, 1) := by decide +kernel
theorem dX10_weigh_5 : decode cX10_weigh 5 = .ok (.aload_n 0, 1) := by decide +kernel
theorem dX10_weigh_6 : decode cX10_weigh 6 = .ok (.getfield 9, 3) := by decide +kernel
theorem dX10_weigh_9 : decode cX10_weigh 9 = .ok (.if_icmp .ge 18, 3) := by decide +kernel
theorem dX10_weigh_12 : decode cX10_weigh 12 = .ok (.iload_n 1, 1) := by decide +kernel
theorem dX10_weigh_13 : decode cX10_weigh 13 = .ok (.iconst 3, 1) := by decide +kernel
theorem dX10_weigh_14 : decode cX10_weigh 14 = .ok (.if_icmp .ge 13, 3) := by decide +kernel
theorem dX10_weigh_17 : decode cX10_weigh 17 = .ok (.iload_n 2, 1) := by decide +kernel
theorem dX10_weigh_18 : decode cX10_weigh 18 = .ok (.iconst 1, 1) := by decide +kernel
theorem dX10_weigh_19 : decode cX10_weigh 19 = .ok (.if_icmp .lt 8, 3) := by decide +kernel
theorem dX10_weigh_22 : decode cX10_weigh 22 = .ok (.iload_n 2, 1) := by decide +kernel
theorem dX10_weigh_23 : decode cX10_weigh 23 = .ok (.iconst 4, 1) := by decide +kernel
theorem dX10_weigh_24 : decode cX10_weigh 24 = .ok (.if_icmp .le 5, 3) := by decide +kernel
theorem dX10_weigh_27 : decode cX10_weigh 27 = .ok (.iconst 0, 1) := by decide +kernel
theorem dX10_weigh_28 : decode cX10_weigh 28 = .ok (.ireturn, 1) := by decide +kernel
theorem dX10_weigh_29 : decode cX10_weigh 29 = .ok (.aload_n 0, 1) := by decide +kernel
theorem dX10_weigh_30 : decode cX10_weigh 30 = .ok (.getfield 15, 3) := by decide +kernel
theorem dX10_weigh_33 : decode cX10_weigh 33 = .ok (.iload_n 1, 1) := by decide +kernel
theorem dX10_weigh_34 : decode cX10_weigh 34 = .ok (.iload_n 2, 1) := by decide +kernel
theorem dX10_weigh_35 : decode cX10_weigh 35 = .ok (.iastore, 1) := by decide +kernel
theorem dX10_weigh_36 : decode cX10_weigh 36 = .ok (.iconst 1, 1) := by decide +kernel
theorem dX10_weigh_37 : decode cX10_weigh 37 = .ok (.ireturn, 1) := by decide +kernel
theorem dX10_shift_0 : decode cX10_shift 0 = .ok (.iload_n 1, 1) := by decide +kernel
theorem dX10_shift_1 : decode cX10_shift 1 = .ok (.ifCond .lt 26, 3) := by decide +kernel
theorem dX10_shift_4 : decode cX10_shift 4 = .ok (.iload_n 1, 1) := by decide +kernel
theorem dX10_shift_5 : decode cX10_shift 5 = .ok (.aload_n 0, 1) := by decide +kernel
theorem dX10_shift_6 : decode cX10_shift 6 = .ok (.getfield 9, 3) := by decide +kernel
theorem dX10_shift_9 : decode cX10_shift 9 = .ok (.if_icmp .ge 18, 3) := by decide +kernel
theorem dX10_shift_12 : decode cX10_shift 12 = .ok (.iload_n 1, 1) := by decide +kernel
theorem dX10_shift_13 : decode cX10_shift 13 = .ok (.iconst 3, 1) := by decide +kernel
theorem dX10_shift_14 : decode cX10_shift 14 = .ok (.if_icmp .ge 13, 3) := by decide +kernel
theorem dX10_shift_17 : decode cX10_shift 17 = .ok (.iload_n 2, 1) := by decide +kernel
theorem dX10_shift_18 : decode cX10_shift 18 = .ok (.ifCond .lt 9, 3) := by decide +kernel
theorem dX10_shift_21 : decode cX10_shift 21 = .ok (.iload_n 2, 1) := by decide +kernel
theorem dX10_shift_22 : decode cX10_shift 22 = .ok (.bipush 6, 2) := by decide +kernel
theorem dX10_shift_24 : decode cX10_shift 24 = .ok (.if_icmp .lt 5, 3) := by decide +kernel
theorem dX10_shift_27 : decode cX10_shift 27 = .ok (.iconst 0, 1) := by decide +kernel
theorem dX10_shift_28 : decode cX10_shift 28 = .ok (.ireturn, 1) := by decide +kernel
theorem dX10_shift_29 : decode cX10_shift 29 = .ok (.iload_n 3, 1) := by decide +kernel
theorem dX10_shift_30 : decode cX10_shift 30 = .ok (.bipush (-99), 2) := by decide +kernel
theorem dX10_shift_32 : decode cX10_shift 32 = .ok (.if_icmp .lt 9, 3) := by decide +kernel
theorem dX10_shift_35 : decode cX10_shift 35 = .ok (.iload_n 3, 1) := by decide +kernel
theorem dX10_shift_36 : decode cX10_shift 36 = .ok (.bipush 99, 2) := by decide +kernel
theorem dX10_shift_38 : decode cX10_shift 38 = .ok (.if_icmp .le 5, 3) := by decide +kernel
theorem dX10_shift_41 : decode cX10_shift 41 = .ok (.iconst 0, 1) := by decide +kernel
theorem dX10_shift_42 : decode cX10_shift 42 = .ok (.ireturn, 1) := by decide +kernel
theorem dX10_shift_43 : decode cX10_shift 43 = .ok (.aload_n 0, 1) := by decide +kernel
theorem dX10_shift_44 : decode cX10_shift 44 = .ok (.getfield 19, 3) := by decide +kernel
theorem dX10_shift_47 : decode cX10_shift 47 = .ok (.iload_n 1, 1) := by decide +kernel
theorem dX10_shift_48 : decode cX10_shift 48 = .ok (.bipush 6, 2) := by decide +kernel
theorem dX10_shift_50 : decode cX10_shift 50 = .ok (.imul, 1) := by decide +kernel
theorem dX10_shift_51 : decode cX10_shift 51 = .ok (.iload_n 2, 1) := by decide +kernel
theorem dX10_shift_52 : decode cX10_shift 52 = .ok (.iadd, 1) := by decide +kernel
theorem dX10_shift_53 : decode cX10_shift 53 = .ok (.iload_n 3, 1) := by decide +kernel
theorem dX10_shift_54 : decode cX10_shift 54 = .ok (.iastore, 1) := by decide +kernel
theorem dX10_shift_55 : decode cX10_shift 55 = .ok (.iconst 1, 1) := by decide +kernel
theorem dX10_shift_56 : decode cX10_shift 56 = .ok (.ireturn, 1) := by decide +kernel
theorem dX11_init_0 : decode cX11_init 0 = .ok (.aload_n 0, 1) := by decide +kernel
theorem dX11_init_1 : decode cX11_init 1 = .ok (.invokespecial 3, 3) := by decide +kernel
theorem dX11_init_4 : decode cX11_init 4 = .ok (.aload_n 0, 1) := by decide +kernel
theorem dX11_init_5 : decode cX11_init 5 = .ok (.new 9, 3) := by decide +kernel
theorem dX11_init_8 : decode cX11_init 8 = .ok (.dup, 1) := by decide +kernel
theorem dX11_init_9 : decode cX11_init 9 = .ok (.invokespecial 11, 3) := by decide +kernel
theorem dX11_init_12 : decode cX11_init 12 = .ok (.putfield 12, 3) := by decide +kernel
theorem dX11_init_15 : decode cX11_init 15 = .ok (.aload_n 0, 1) := by decide +kernel
theorem dX11_init_16 : decode cX11_init 16 = .ok (.new 16, 3) := by decide +kernel
theorem dX11_init_19 : decode cX11_init 19 = .ok (.dup, 1) := by decide +kernel
theorem dX11_init_20 : decode cX11_init 20 = .ok (.sipush 400, 3) := by decide +kernel
theorem dX11_init_23 : decode cX11_init 23 = .ok (.invokespecial 18, 3) := by decide +kernel
theorem dX11_init_26 : decode cX11_init 26 = .ok (.putfield 21, 3) := by decide +kernel
theorem dX11_init_29 : decode cX11_init 29 = .ok (.aload_n 0, 1) := by decide +kernel
theorem dX11_init_30 : decode cX11_init 30 = .ok (.new 16, 3) := by decide +kernel
theorem dX11_init_33 : decode cX11_init 33 = .ok (.dup, 1) := by decide +kernel
theorem dX11_init_34 : decode cX11_init 34 = .ok (.sipush 480, 3) := by decide +kernel
theorem dX11_init_37 : decode cX11_init 37 = .ok (.invokespecial 18, 3) := by decide +kernel
theorem dX11_init_40 : decode cX11_init 40 = .ok (.putfield 25, 3) := by decide +kernel
theorem dX11_init_43 : decode cX11_init 43 = .ok (.aload_n 0, 1) := by decide +kernel
theorem dX11_init_44 : decode cX11_init 44 = .ok (.bipush 20, 2) := by decide +kernel
theorem dX11_init_46 : decode cX11_init 46 = .ok (.anewarray 28, 3) := by decide +kernel
theorem dX11_init_49 : decode cX11_init 49 = .ok (.putfield 30, 3) := by decide +kernel
theorem dX11_init_52 : decode cX11_init 52 = .ok (.aload_n 0, 1) := by decide +kernel
theorem dX11_init_53 : decode cX11_init 53 = .ok (.new 28, 3) := by decide +kernel
theorem dX11_init_56 : decode cX11_init 56 = .ok (.dup, 1) := by decide +kernel
theorem dX11_init_57 : decode cX11_init 57 = .ok (.bipush 40, 2) := by decide +kernel
theorem dX11_init_59 : decode cX11_init 59 = .ok (.bipush 40, 2) := by decide +kernel
theorem dX11_init_61 : decode cX11_init 61 = .ok (.invokespecial 34, 3) := by decide +kernel
theorem dX11_init_64 : decode cX11_init 64 = .ok (.putfield 37, 3) := by decide +kernel
theorem dX11_init_67 : decode cX11_init 67 = .ok (.aload_n 0, 1) := by decide +kernel
theorem dX11_init_68 : decode cX11_init 68 = .ok (.new 28, 3) := by decide +kernel
theorem dX11_init_71 : decode cX11_init 71 = .ok (.dup, 1) := by decide +kernel
theorem dX11_init_72 : decode cX11_init 72 = .ok (.bipush 40, 2) := by decide +kernel
theorem dX11_init_74 : decode cX11_init 74 = .ok (.bipush 40, 2) := by decide +kernel
theorem dX11_init_76 : decode cX11_init 76 = .ok (.invokespecial 34, 3) := by decide +kernel
theorem dX11_init_79 : decode cX11_init 79 = .ok (.putfield 41, 3) := by decide +kernel
theorem dX11_init_82 : decode cX11_init 82 = .ok (.aload_n 0, 1) := by decide +kernel
theorem dX11_init_83 : decode cX11_init 83 = .ok (.new 44, 3) := by decide +kernel
theorem dX11_init_86 : decode cX11_init 86 = .ok (.dup, 1) := by decide +kernel
theorem dX11_init_87 : decode cX11_init 87 = .ok (.aload_n 0, 1) := by decide +kernel
theorem dX11_init_88 : decode cX11_init 88 = .ok (.getfield 21, 3) := by decide +kernel
theorem dX11_init_91 : decode cX11_init 91 = .ok (.aload_n 0, 1) := by decide +kernel
theorem dX11_init_92 : decode cX11_init 92 = .ok (.getfield 37, 3) := by decide +kernel
theorem dX11_init_95 : decode cX11_init 95 = .ok (.invokespecial 46, 3) := by decide +kernel
theorem dX11_init_98 : decode cX11_init 98 = .ok (.putfield 49, 3) := by decide +kernel
theorem dX11_init_101 : decode cX11_init 101 = .ok (.aload_n 0, 1) := by decide +kernel
theorem dX11_init_102 : decode cX11_init 102 = .ok (.new 53, 3) := by decide +kernel
theorem dX11_init_105 : decode cX11_init 105 = .ok (.dup, 1) := by decide +kernel
theorem dX11_init_106 : decode cX11_init 106 = .ok (.aload_n 0, 1) := by decide +kernel
theorem dX11_init_107 : decode cX11_init 107 = .ok (.getfield 25, 3) := by decide +kernel
theorem dX11_init_110 : decode cX11_init 110 = .ok (.invokespecial 55, 3) := by decide +kernel
theorem dX11_init_113 : decode cX11_init 113 = .ok (.putfield 58, 3) := by decide +kernel
theorem dX11_init_116 : decode cX11_init 116 = .ok (.aload_n 0, 1) := by decide +kernel
theorem dX11_init_117 : decode cX11_init 117 = .ok (.new 62, 3) := by decide +kernel
theorem dX11_init_120 : decode cX11_init 120 = .ok (.dup, 1) := by decide +kernel
theorem dX11_init_121 : decode cX11_init 121 = .ok (.invokespecial 64, 3) := by decide +kernel
theorem dX11_init_124 : decode cX11_init 124 = .ok (.putfield 65, 3) := by decide +kernel
theorem dX11_init_127 : decode cX11_init 127 = .ok (.aload_n 0, 1) := by decide +kernel
theorem dX11_init_128 : decode cX11_init 128 = .ok (.new 69, 3) := by decide +kernel
theorem dX11_init_131 : decode cX11_init 131 = .ok (.dup, 1) := by decide +kernel
theorem dX11_init_132 : decode cX11_init 132 = .ok (.invokespecial 71, 3) := by decide +kernel
theorem dX11_init_135 : decode cX11_init 135 = .ok (.putfield 72, 3) := by decide +kernel
theorem dX11_init_138 : decode cX11_init 138 = .ok (.aload_n 0, 1) := by decide +kernel
theorem dX11_init_139 : decode cX11_init 139 = .ok (.new 76, 3) := by decide +kernel
theorem dX11_init_142 : decode cX11_init 142 = .ok (.dup, 1) := by decide +kernel
theorem dX11_init_143 : decode cX11_init 143 = .ok (.aload_n 0, 1) := by decide +kernel
theorem dX11_init_144 : decode cX11_init 144 = .ok (.getfield 12, 3) := by decide +kernel
theorem dX11_init_147 : decode cX11_init 147 = .ok (.getfield 78, 3) := by decide +kernel
theorem dX11_init_150 : decode cX11_init 150 = .ok (.aload_n 0, 1) := by decide +kernel
theorem dX11_init_151 : decode cX11_init 151 = .ok (.getfield 72, 3) := by decide +kernel
theorem dX11_init_154 : decode cX11_init 154 = .ok (.invokespecial 82, 3) := by decide +kernel
theorem dX11_init_157 : decode cX11_init 157 = .ok (.putfield 85, 3) := by decide +kernel
theorem dX11_init_160 : decode cX11_init 160 = .ok (.aload_n 0, 1) := by decide +kernel
theorem dX11_init_161 : decode cX11_init 161 = .ok (.new 89, 3) := by decide +kernel
theorem dX11_init_164 : decode cX11_init 164 = .ok (.dup, 1) := by decide +kernel
theorem dX11_init_165 : decode cX11_init 165 = .ok (.aload_n 0, 1) := by decide +kernel
theorem dX11_init_166 : decode cX11_init 166 = .ok (.getfield 12, 3) := by decide +kernel
theorem dX11_init_169 : decode cX11_init 169 = .ok (.getfield 78, 3) := by decide +kernel
theorem dX11_init_172 : decode cX11_init 172 = .ok (.invokespecial 91, 3) := by decide +kernel
theorem dX11_init_175 : decode cX11_init 175 = .ok (.putfield 94, 3) := by decide +kernel
theorem dX11_init_178 : decode cX11_init 178 = .ok (.return_, 1) := by decide +kernel
theorem dX11_see_0 : decode cX11_see 0 = .ok (.aload_n 0, 1) := by decide +kernel
theorem dX11_see_1 : decode cX11_see 1 = .ok (.getfield 12, 3) := by decide +kernel
theorem dX11_see_4 : decode cX11_see 4 = .ok (.iload_n 1, 1) := by decide +kernel
theorem dX11_see_5 : decode cX11_see 5 = .ok (.iload_n 2, 1) := by decide +kernel
theorem dX11_see_6 : decode cX11_see 6 = .ok (.iload_n 3, 1) := by decide +kernel
theorem dX11_see_7 : decode cX11_see 7 = .ok (.invokevirtual 98, 3) := by decide +kernel
theorem dX11_see_10 : decode cX11_see 10 = .ok (.ireturn, 1) := by decide +kernel
theorem dX11_seen_0 : decode cX11_seen 0 = .ok (.aload_n 0, 1) := by decide +kernel
theorem dX11_seen_1 : decode cX11_seen 1 = .ok (.getfield 12, 3) := by decide +kernel
theorem dX11_seen_4 : decode cX11_seen 4 = .ok (.iload_n 1, 1) := by decide +kernel
theorem dX11_seen_5 : decode cX11_seen 5 = .ok (.iload_n 2, 1) := by decide +kernel
theorem dX11_seen_6 : decode cX11_seen 6 = .ok (.invokevirtual 102, 3) := by decide +kernel
theorem dX11_seen_9 : decode cX11_seen 9 = .ok (.ireturn, 1) := by decide +kernel
theorem dX11_feed_0 : decode cX11_feed 0 = .ok (.aload_n 0, 1) := by decide +kernel
theorem dX11_feed_1 : decode cX11_feed 1 = .ok (.getfield 21, 3) := by decide +kernel
theorem dX11_feed_4 : decode cX11_feed 4 = .ok (.invokevirtual 106, 3) := by decide +kernel
theorem dX11_feed_7 : decode cX11_feed 7 = .ok (.bipush 20, 2) := by decide +kernel
theorem dX11_feed_9 : decode cX11_feed 9 = .ok (.iadd, 1) := by decide +kernel
theorem dX11_feed_10 : decode cX11_feed 10 = .ok (.sipush 400, 3) := by decide +kernel
theorem dX11_feed_13 : decode cX11_feed 13 = .ok (.if_icmp .le 5, 3) := by decide +kernel
theorem dX11_feed_16 : decode cX11_feed 16 = .ok (.iconst (-1), 1) := by decide +kernel
theorem dX11_feed_17 : decode cX11_feed 17 = .ok (.ireturn, 1) := by decide +kernel
theorem dX11_feed_18 : decode cX11_feed 18 = .ok (.aload_n 0, 1) := by decide +kernel
theorem dX11_feed_19 : decode cX11_feed 19 = .ok (.getfield 21, 3) := by decide +kernel
theorem dX11_feed_22 : decode cX11_feed 22 = .ok (.iload_n 1, 1) := by decide +kernel
theorem dX11_feed_23 : decode cX11_feed 23 = .ok (.invokevirtual 110, 3) := by decide +kernel
theorem dX11_feed_26 : decode cX11_feed 26 = .ok (.aload_n 0, 1) := by decide +kernel
theorem dX11_feed_27 : decode cX11_feed 27 = .ok (.getfield 21, 3) := by decide +kernel
theorem dX11_feed_30 : decode cX11_feed 30 = .ok (.iload_n 2, 1) := by decide +kernel
theorem dX11_feed_31 : decode cX11_feed 31 = .ok (.invokevirtual 110, 3) := by decide +kernel
theorem dX11_feed_34 : decode cX11_feed 34 = .ok (.aload_n 0, 1) := by decide +kernel
theorem dX11_feed_35 : decode cX11_feed 35 = .ok (.getfield 21, 3) := by decide +kernel
theorem dX11_feed_38 : decode cX11_feed 38 = .ok (.iload_n 3, 1) := by decide +kernel
theorem dX11_feed_39 : decode cX11_feed 39 = .ok (.invokevirtual 110, 3) := by decide +kernel
theorem dX11_feed_42 : decode cX11_feed 42 = .ok (.aload_n 0, 1) := by decide +kernel
theorem dX11_feed_43 : decode cX11_feed 43 = .ok (.getfield 21, 3) := by decide +kernel
theorem dX11_feed_46 : decode cX11_feed 46 = .ok (.iload 4, 2) := by decide +kernel
theorem dX11_feed_48 : decode cX11_feed 48 = .ok (.invokevirtual 110, 3) := by decide +kernel
theorem dX11_feed_51 : decode cX11_feed 51 = .ok (.aload_n 0, 1) := by decide +kernel
theorem dX11_feed_52 : decode cX11_feed 52 = .ok (.getfield 21, 3) := by decide +kernel
theorem dX11_feed_55 : decode cX11_feed 55 = .ok (.iload 5, 2) := by decide +kernel
theorem dX11_feed_57 : decode cX11_feed 57 = .ok (.invokevirtual 110, 3) := by decide +kernel
theorem dX11_feed_60 : decode cX11_feed 60 = .ok (.aload_n 0, 1) := by decide +kernel
theorem dX11_feed_61 : decode cX11_feed 61 = .ok (.getfield 21, 3) := by decide +kernel
theorem dX11_feed_64 : decode cX11_feed 64 = .ok (.invokevirtual 106, 3) := by decide +kernel
theorem dX11_feed_67 : decode cX11_feed 67 = .ok (.ireturn, 1) := by decide +kernel
theorem dX11_end_0 : decode cX11_end 0 = .ok (.iload_n 1, 1) := by decide +kernel
theorem dX11_end_1 : decode cX11_end 1 = .ok (.ifCond .lt 14, 3) := by decide +kernel
theorem dX11_end_4 : decode cX11_end 4 = .ok (.iload_n 1, 1) := by decide +kernel
theorem dX11_end_5 : decode cX11_end 5 = .ok (.aload_n 0, 1) := by decide +kernel
theorem dX11_end_6 : decode cX11_end 6 = .ok (.getfield 21, 3) := by decide +kernel
theorem dX11_end_9 : decode cX11_end 9 = .ok (.invokevirtual 106, 3) := by decide +kernel
theorem dX11_end_12 : decode cX11_end 12 = .ok (.if_icmp .le 5, 3) := by decide +kernel
theorem dX11_end_15 : decode cX11_end 15 = .ok (.iconst (-1), 1) := by decide +kernel
theorem dX11_end_16 : decode cX11_end 16 = .ok (.ireturn, 1) := by decide +kernel
theorem dX11_end_17 : decode cX11_end 17 = .ok (.aload_n 0, 1) := by decide +kernel
theorem dX11_end_18 : decode cX11_end 18 = .ok (.getfield 21, 3) := by decide +kernel
theorem dX11_end_21 : decode cX11_end 21 = .ok (.iload_n 1, 1) := by decide +kernel
theorem dX11_end_22 : decode cX11_end 22 = .ok (.invokevirtual 113, 3) := by decide +kernel
theorem dX11_end_25 : decode cX11_end 25 = .ok (.iload_n 1, 1) := by decide +kernel
theorem dX11_end_26 : decode cX11_end 26 = .ok (.ireturn, 1) := by decide +kernel
theorem dX11_form_0 : decode cX11_form 0 = .ok (.aload_n 0, 1) := by decide +kernel
theorem dX11_form_1 : decode cX11_form 1 = .ok (.getfield 116, 3) := by decide +kernel
theorem dX11_form_4 : decode cX11_form 4 = .ok (.bipush 20, 2) := by decide +kernel
theorem dX11_form_6 : decode cX11_form 6 = .ok (.if_icmp .lt 5, 3) := by decide +kernel
theorem dX11_form_9 : decode cX11_form 9 = .ok (.iconst (-1), 1) := by decide +kernel
theorem dX11_form_10 : decode cX11_form 10 = .ok (.ireturn, 1) := by decide +kernel
theorem dX11_form_11 : decode cX11_form 11 = .ok (.aload_n 0, 1) := by decide +kernel
theorem dX11_form_12 : decode cX11_form 12 = .ok (.getfield 49, 3) := by decide +kernel
theorem dX11_form_15 : decode cX11_form 15 = .ok (.invokevirtual 120, 3) := by decide +kernel
theorem dX11_form_18 : decode cX11_form 18 = .ok (.istore_n 1, 1) := by decide +kernel
theorem dX11_form_19 : decode cX11_form 19 = .ok (.aload_n 0, 1) := by decide +kernel
theorem dX11_form_20 : decode cX11_form 20 = .ok (.getfield 21, 3) := by decide +kernel
theorem dX11_form_23 : decode cX11_form 23 = .ok (.iconst 0, 1) := by decide +kernel
theorem dX11_form_24 : decode cX11_form 24 = .ok (.invokevirtual 113, 3) := by decide +kernel
theorem dX11_form_27 : decode cX11_form 27 = .ok (.iload_n 1, 1) := by decide +kernel
theorem dX11_form_28 : decode cX11_form 28 = .ok (.ifCond .le 10, 3) := by decide +kernel
theorem dX11_form_31 : decode cX11_form 31 = .ok (.bipush (-2), 2) := by decide +kernel
theorem dX11_form_33 : decode cX11_form 33 = .ok (.iload_n 1, 1) := by decide +kernel
theorem dX11_form_34 : decode cX11_form 34 = .ok (.isub, 1) := by decide +kernel
theorem dX11_form_35 : decode cX11_form 35 = .ok (.goto 7, 3) := by decide +kernel
theorem dX11_form_38 : decode cX11_form 38 = .ok (.aload_n 0, 1) := by decide +kernel
theorem dX11_form_39 : decode cX11_form 39 = .ok (.invokevirtual 123, 3) := by decide +kernel
theorem dX11_form_42 : decode cX11_form 42 = .ok (.ireturn, 1) := by decide +kernel
theorem dX11_word_0 : decode cX11_word 0 = .ok (.aload_n 0, 1) := by decide +kernel
theorem dX11_word_1 : decode cX11_word 1 = .ok (.iload_n 1, 1) := by decide +kernel
theorem dX11_word_2 : decode cX11_word 2 = .ok (.invokevirtual 126, 3) := by decide +kernel
theorem dX11_word_5 : decode cX11_word 5 = .ok (.astore 4, 2) := by decide +kernel
theorem dX11_word_7 : decode cX11_word 7 = .ok (.aload 4, 2) := by decide +kernel
theorem dX11_word_9 : decode cX11_word 9 = .ok (.ifnull 12, 3) := by decide +kernel
theorem dX11_word_12 : decode cX11_word 12 = .ok (.iload_n 3, 1) := by decide +kernel
theorem dX11_word_13 : decode cX11_word 13 = .ok (.ifCond .lt 8, 3) := by decide +kernel
theorem dX11_word_16 : decode cX11_word 16 = .ok (.iload_n 3, 1) := by decide +kernel
theorem dX11_word_17 : decode cX11_word 17 = .ok (.iconst 2, 1) := by decide +kernel
theorem dX11_word_18 : decode cX11_word 18 = .ok (.if_icmp .le 5, 3) := by decide +kernel
theorem dX11_word_21 : decode cX11_word 21 = .ok (.iconst (-1), 1) := by decide +kernel
theorem dX11_word_22 : decode cX11_word 22 = .ok (.ireturn, 1) := by decide +kernel
theorem dX11_word_23 : decode cX11_word 23 = .ok (.iload_n 3, 1) := by decide +kernel
theorem dX11_word_24 : decode cX11_word 24 = .ok (.ifCond .ne 11, 3) := by decide +kernel
theorem dX11_word_27 : decode cX11_word 27 = .ok (.aload 4, 2) := by decide +kernel
theorem dX11_word_29 : decode cX11_word 29 = .ok (.iload_n 2, 1) := by decide +kernel
theorem dX11_word_30 : decode cX11_word 30 = .ok (.iconst 0, 1) := by decide +kernel
theorem dX11_word_31 : decode cX11_word 31 = .ok (.invokevirtual 130, 3) := by decide +kernel
theorem dX11_word_34 : decode cX11_word 34 = .ok (.ireturn, 1) := by decide +kernel
theorem dX11_word_35 : decode cX11_word 35 = .ok (.aload 4, 2) := by decide +kernel
theorem dX11_word_37 : decode cX11_word 37 = .ok (.iload_n 2, 1) := by decide +kernel
theorem dX11_word_38 : decode cX11_word 38 = .ok (.iload_n 3, 1) := by decide +kernel
theorem dX11_word_39 : decode cX11_word 39 = .ok (.iconst 1, 1) := by decide +kernel
theorem dX11_word_40 : decode cX11_word 40 = .ok (.if_icmp .ne 7, 3) := by decide +kernel
theorem dX11_word_43 : decode cX11_word 43 = .ok (.iconst 1, 1) := by decide +kernel
theorem dX11_word_44 : decode cX11_word 44 = .ok (.goto 4, 3) := by decide +kernel
theorem dX11_word_47 : decode cX11_word 47 = .ok (.iconst 2, 1) := by decide +kernel
theorem dX11_word_48 : decode cX11_word 48 = .ok (.invokevirtual 130, 3) := by decide +kernel
theorem dX11_word_51 : decode cX11_word 51 = .ok (.ireturn, 1) := by decide +kernel
theorem dX11_words_0 : decode cX11_words 0 = .ok (.aload_n 0, 1) := by decide +kernel
theorem dX11_words_1 : decode cX11_words 1 = .ok (.iload_n 1, 1) := by decide +kernel
theorem dX11_words_2 : decode cX11_words 2 = .ok (.invokevirtual 126, 3) := by decide +kernel
theorem dX11_words_5 : decode cX11_words 5 = .ok (.astore_n 2, 1) := by decide +kernel
theorem dX11_words_6 : decode cX11_words 6 = .ok (.aload_n 2, 1) := by decide +kernel
theorem dX11_words_7 : decode cX11_words 7 = .ok (.ifnonnull 7, 3) := by decide +kernel
theorem dX11_words_10 : decode cX11_words 10 = .ok (.iconst (-1), 1) := by decide +kernel
theorem dX11_words_11 : decode cX11_words 11 = .ok (.goto 7, 3) := by decide +kernel
theorem dX11_words_14 : decode cX11_words 14 = .ok (.aload_n 2, 1) := by decide +kernel
theorem dX11_words_15 : decode cX11_words 15 = .ok (.invokevirtual 133, 3) := by decide +kernel
theorem dX11_words_18 : decode cX11_words 18 = .ok (.ireturn, 1) := by decide +kernel
theorem dX11_shorter_0 : decode cX11_shorter 0 = .ok (.aload_n 0, 1) := by decide +kernel
theorem dX11_shorter_1 : decode cX11_shorter 1 = .ok (.iload_n 1, 1) := by decide +kernel
theorem dX11_shorter_2 : decode cX11_shorter 2 = .ok (.invokevirtual 126, 3) := by decide +kernel
theorem dX11_shorter_5 : decode cX11_shorter 5 = .ok (.astore_n 2, 1) := by decide +kernel
theorem dX11_shorter_6 : decode cX11_shorter 6 = .ok (.aload_n 2, 1) := by decide +kernel
theorem dX11_shorter_7 : decode cX11_shorter 7 = .ok (.ifnull 12, 3) := by decide +kernel
theorem dX11_shorter_10 : decode cX11_shorter 10 = .ok (.aload_n 0, 1) := by decide +kernel
theorem dX11_shorter_11 : decode cX11_shorter 11 = .ok (.getfield 116, 3) := by decide +kernel
theorem dX11_shorter_14 : decode cX11_shorter 14 = .ok (.bipush 20, 2) := by decide +kernel
theorem dX11_shorter_16 : decode cX11_shorter 16 = .ok (.if_icmp .lt 5, 3) := by decide +kernel
theorem dX11_shorter_19 : decode cX11_shorter 19 = .ok (.iconst (-1), 1) := by decide +kernel
theorem dX11_shorter_20 : decode cX11_shorter 20 = .ok (.ireturn, 1) := by decide +kernel
theorem dX11_shorter_21 : decode cX11_shorter 21 = .ok (.aload_n 0, 1) := by decide +kernel
theorem dX11_shorter_22 : decode cX11_shorter 22 = .ok (.getfield 65, 3) := by decide +kernel
theorem dX11_shorter_25 : decode cX11_shorter 25 = .ok (.aload_n 2, 1) := by decide +kernel
theorem dX11_shorter_26 : decode cX11_shorter 26 = .ok (.aload_n 0, 1) := by decide +kernel
theorem dX11_shorter_27 : decode cX11_shorter 27 = .ok (.getfield 37, 3) := by decide +kernel
theorem dX11_shorter_30 : decode cX11_shorter 30 = .ok (.invokevirtual 134, 3) := by decide +kernel
theorem dX11_shorter_33 : decode cX11_shorter 33 = .ok (.aload_n 0, 1) := by decide +kernel
theorem dX11_shorter_34 : decode cX11_shorter 34 = .ok (.invokevirtual 123, 3) := by decide +kernel
theorem dX11_shorter_37 : decode cX11_shorter 37 = .ok (.ireturn, 1) := by decide +kernel
theorem dX11_same_0 : decode cX11_same 0 = .ok (.aload_n 0, 1) := by decide +kernel
theorem dX11_same_1 : decode cX11_same 1 = .ok (.iload_n 1, 1) := by decide +kernel
theorem dX11_same_2 : decode cX11_same 2 = .ok (.invokevirtual 126, 3) := by decide +kernel
theorem dX11_same_5 : decode cX11_same 5 = .ok (.astore_n 3, 1) := by decide +kernel
theorem dX11_same_6 : decode cX11_same 6 = .ok (.aload_n 0, 1) := by decide +kernel
theorem dX11_same_7 : decode cX11_same 7 = .ok (.iload_n 2, 1) := by decide +kernel
theorem dX11_same_8 : decode cX11_same 8 = .ok (.invokevirtual 126, 3) := by decide +kernel
theorem dX11_same_11 : decode cX11_same 11 = .ok (.astore 4, 2) := by decide +kernel
theorem dX11_same_13 : decode cX11_same 13 = .ok (.aload_n 3, 1) := by decide +kernel
theorem dX11_same_14 : decode cX11_same 14 = .ok (.ifnull 8, 3) := by decide +kernel
theorem dX11_same_17 : decode cX11_same 17 = .ok (.aload 4, 2) := by decide +kernel
theorem dX11_same_19 : decode cX11_same 19 = .ok (.ifnonnull 5, 3) := by decide +kernel
theorem dX11_same_22 : decode cX11_same 22 = .ok (.iconst (-1), 1) := by decide +kernel
theorem dX11_same_23 : decode cX11_same 23 = .ok (.ireturn, 1) := by decide +kernel
theorem dX11_same_24 : decode cX11_same 24 = .ok (.aload_n 0, 1) := by decide +kernel
theorem dX11_same_25 : decode cX11_same 25 = .ok (.getfield 65, 3) := by decide +kernel
theorem dX11_same_28 : decode cX11_same 28 = .ok (.aload_n 3, 1) := by decide +kernel
theorem dX11_same_29 : decode cX11_same 29 = .ok (.aload_n 0, 1) := by decide +kernel
theorem dX11_same_30 : decode cX11_same 30 = .ok (.getfield 37, 3) := by decide +kernel
theorem dX11_same_33 : decode cX11_same 33 = .ok (.invokevirtual 134, 3) := by decide +kernel
theorem dX11_same_36 : decode cX11_same 36 = .ok (.aload_n 0, 1) := by decide +kernel
theorem dX11_same_37 : decode cX11_same 37 = .ok (.getfield 65, 3) := by decide +kernel
theorem dX11_same_40 : decode cX11_same 40 = .ok (.aload 4, 2) := by decide +kernel
theorem dX11_same_42 : decode cX11_same 42 = .ok (.aload_n 0, 1) := by decide +kernel
theorem dX11_same_43 : decode cX11_same 43 = .ok (.getfield 41, 3) := by decide +kernel
theorem dX11_same_46 : decode cX11_same 46 = .ok (.invokevirtual 134, 3) := by decide +kernel
theorem dX11_same_49 : decode cX11_same 49 = .ok (.aload_n 0, 1) := by decide +kernel
theorem dX11_same_50 : decode cX11_same 50 = .ok (.getfield 65, 3) := by decide +kernel
theorem dX11_same_53 : decode cX11_same 53 = .ok (.aload_n 0, 1) := by decide +kernel
theorem dX11_same_54 : decode cX11_same 54 = .ok (.getfield 37, 3) := by decide +kernel
theorem dX11_same_57 : decode cX11_same 57 = .ok (.aload_n 0, 1) := by decide +kernel
theorem dX11_same_58 : decode cX11_same 58 = .ok (.getfield 41, 3) := by decide +kernel
theorem dX11_same_61 : decode cX11_same 61 = .ok (.invokevirtual 138, 3) := by decide +kernel
theorem dX11_same_64 : decode cX11_same 64 = .ok (.ifCond .eq 7, 3) := by decide +kernel
theorem dX11_same_67 : decode cX11_same 67 = .ok (.iconst 1, 1) := by decide +kernel
theorem dX11_same_68 : decode cX11_same 68 = .ok (.goto 4, 3) := by decide +kernel
theorem dX11_same_71 : decode cX11_same 71 = .ok (.iconst 0, 1) := by decide +kernel
theorem dX11_same_72 : decode cX11_same 72 = .ok (.ireturn, 1) := by decide +kernel
theorem dX11_tell_0 : decode cX11_tell 0 = .ok (.aload_n 0, 1) := by decide +kernel
theorem dX11_tell_1 : decode cX11_tell 1 = .ok (.iload_n 1, 1) := by decide +kernel
theorem dX11_tell_2 : decode cX11_tell 2 = .ok (.invokevirtual 126, 3) := by decide +kernel
theorem dX11_tell_5 : decode cX11_tell 5 = .ok (.astore_n 2, 1) := by decide +kernel
theorem dX11_tell_6 : decode cX11_tell 6 = .ok (.aload_n 2, 1) := by decide +kernel
theorem dX11_tell_7 : decode cX11_tell 7 = .ok (.ifnonnull 5, 3) := by decide +kernel
theorem dX11_tell_10 : decode cX11_tell 10 = .ok (.iconst (-1), 1) := by decide +kernel
theorem dX11_tell_11 : decode cX11_tell 11 = .ok (.ireturn, 1) := by decide +kernel
theorem dX11_tell_12 : decode cX11_tell 12 = .ok (.aload_n 0, 1) := by decide +kernel
theorem dX11_tell_13 : decode cX11_tell 13 = .ok (.getfield 58, 3) := by decide +kernel
theorem dX11_tell_16 : decode cX11_tell 16 = .ok (.aload_n 2, 1) := by decide +kernel
theorem dX11_tell_17 : decode cX11_tell 17 = .ok (.invokevirtual 142, 3) := by decide +kernel
theorem dX11_tell_20 : decode cX11_tell 20 = .ok (.aload_n 0, 1) := by decide +kernel
theorem dX11_tell_21 : decode cX11_tell 21 = .ok (.getfield 25, 3) := by decide +kernel
theorem dX11_tell_24 : decode cX11_tell 24 = .ok (.invokevirtual 106, 3) := by decide +kernel
theorem dX11_tell_27 : decode cX11_tell 27 = .ok (.ireturn, 1) := by decide +kernel
theorem dX11_octet_0 : decode cX11_octet 0 = .ok (.aload_n 0, 1) := by decide +kernel
theorem dX11_octet_1 : decode cX11_octet 1 = .ok (.getfield 25, 3) := by decide +kernel
theorem dX11_octet_4 : decode cX11_octet 4 = .ok (.iload_n 1, 1) := by decide +kernel
theorem dX11_octet_5 : decode cX11_octet 5 = .ok (.invokevirtual 145, 3) := by decide +kernel
theorem dX11_octet_8 : decode cX11_octet 8 = .ok (.ireturn, 1) := by decide +kernel
theorem dX11_begin_0 : decode cX11_begin 0 = .ok (.aload_n 0, 1) := by decide +kernel
theorem dX11_begin_1 : decode cX11_begin 1 = .ok (.iload_n 1, 1) := by decide +kernel
theorem dX11_begin_2 : decode cX11_begin 2 = .ok (.invokevirtual 126, 3) := by decide +kernel
theorem dX11_begin_5 : decode cX11_begin 5 = .ok (.astore 4, 2) := by decide +kernel
theorem dX11_begin_7 : decode cX11_begin 7 = .ok (.aload 4, 2) := by decide +kernel
theorem dX11_begin_9 : decode cX11_begin 9 = .ok (.ifnull 22, 3) := by decide +kernel
theorem dX11_begin_12 : decode cX11_begin 12 = .ok (.iload_n 2, 1) := by decide +kernel
theorem dX11_begin_13 : decode cX11_begin 13 = .ok (.invokestatic 149, 3) := by decide +kernel
theorem dX11_begin_16 : decode cX11_begin 16 = .ok (.ifCond .eq 15, 3) := by decide +kernel
theorem dX11_begin_19 : decode cX11_begin 19 = .ok (.iload_n 3, 1) := by decide +kernel
theorem dX11_begin_20 : decode cX11_begin 20 = .ok (.invokestatic 149, 3) := by decide +kernel
theorem dX11_begin_23 : decode cX11_begin 23 = .ok (.ifCond .eq 8, 3) := by decide +kernel
theorem dX11_begin_26 : decode cX11_begin 26 = .ok (.iload_n 2, 1) := by decide +kernel
theorem dX11_begin_27 : decode cX11_begin 27 = .ok (.iload_n 3, 1) := by decide +kernel
theorem dX11_begin_28 : decode cX11_begin 28 = .ok (.if_icmp .ne 5, 3) := by decide +kernel
theorem dX11_begin_31 : decode cX11_begin 31 = .ok (.iconst (-1), 1) := by decide +kernel
theorem dX11_begin_32 : decode cX11_begin 32 = .ok (.ireturn, 1) := by decide +kernel
theorem dX11_begin_33 : decode cX11_begin 33 = .ok (.aload_n 0, 1) := by decide +kernel
theorem dX11_begin_34 : decode cX11_begin 34 = .ok (.getfield 85, 3) := by decide +kernel
theorem dX11_begin_37 : decode cX11_begin 37 = .ok (.aload 4, 2) := by decide +kernel
theorem dX11_begin_39 : decode cX11_begin 39 = .ok (.iload_n 2, 1) := by decide +kernel
theorem dX11_begin_40 : decode cX11_begin 40 = .ok (.iload_n 3, 1) := by decide +kernel
theorem dX11_begin_41 : decode cX11_begin 41 = .ok (.invokevirtual 153, 3) := by decide +kernel
theorem dX11_begin_44 : decode cX11_begin 44 = .ok (.ireturn, 1) := by decide +kernel
theorem dX11_day_0 : decode cX11_day 0 = .ok (.aload_n 0, 1) := by decide +kernel
theorem dX11_day_1 : decode cX11_day 1 = .ok (.getfield 12, 3) := by decide +kernel
theorem dX11_day_4 : decode cX11_day 4 = .ok (.invokevirtual 157, 3) := by decide +kernel
theorem dX11_day_7 : decode cX11_day 7 = .ok (.ifCond .ne 5, 3) := by decide +kernel
theorem dX11_day_10 : decode cX11_day 10 = .ok (.iconst (-1), 1) := by decide +kernel
theorem dX11_day_11 : decode cX11_day 11 = .ok (.ireturn, 1) := by decide +kernel
theorem dX11_day_12 : decode cX11_day 12 = .ok (.aload_n 0, 1) := by decide +kernel
theorem dX11_day_13 : decode cX11_day 13 = .ok (.getfield 72, 3) := by decide +kernel
theorem dX11_day_16 : decode cX11_day 16 = .ok (.invokevirtual 161, 3) := by decide +kernel
theorem dX11_day_19 : decode cX11_day 19 = .ok (.istore_n 1, 1) := by decide +kernel
theorem dX11_day_20 : decode cX11_day 20 = .ok (.iconst 0, 1) := by decide +kernel
theorem dX11_day_21 : decode cX11_day 21 = .ok (.istore_n 2, 1) := by decide +kernel
theorem dX11_day_22 : decode cX11_day 22 = .ok (.iload_n 2, 1) := by decide +kernel
theorem dX11_day_23 : decode cX11_day 23 = .ok (.bipush 40, 2) := by decide +kernel
theorem dX11_day_25 : decode cX11_day 25 = .ok (.if_icmp .ge 24, 3) := by decide +kernel
theorem dX11_day_28 : decode cX11_day 28 = .ok (.aload_n 0, 1) := by decide +kernel
theorem dX11_day_29 : decode cX11_day 29 = .ok (.getfield 85, 3) := by decide +kernel
theorem dX11_day_32 : decode cX11_day 32 = .ok (.aload_n 0, 1) := by decide +kernel
theorem dX11_day_33 : decode cX11_day 33 = .ok (.getfield 85, 3) := by decide +kernel
theorem dX11_day_36 : decode cX11_day 36 = .ok (.iload_n 2, 1) := by decide +kernel
theorem dX11_day_37 : decode cX11_day 37 = .ok (.invokevirtual 162, 3) := by decide +kernel
theorem dX11_day_40 : decode cX11_day 40 = .ok (.invokevirtual 166, 3) := by decide +kernel
theorem dX11_day_43 : decode cX11_day 43 = .ok (.iinc 2 1, 3) := by decide +kernel
theorem dX11_day_46 : decode cX11_day 46 = .ok (.goto (-24), 3) := by decide +kernel
theorem dX11_day_49 : decode cX11_day 49 = .ok (.aload_n 0, 1) := by decide +kernel
theorem dX11_day_50 : decode cX11_day 50 = .ok (.getfield 72, 3) := by decide +kernel
theorem dX11_day_53 : decode cX11_day 53 = .ok (.invokevirtual 161, 3) := by decide +kernel
theorem dX11_day_56 : decode cX11_day 56 = .ok (.iload_n 1, 1) := by decide +kernel
theorem dX11_day_57 : decode cX11_day 57 = .ok (.isub, 1) := by decide +kernel
theorem dX11_day_58 : decode cX11_day 58 = .ok (.ireturn, 1) := by decide +kernel
theorem dX11_stands_0 : decode cX11_stands 0 = .ok (.aload_n 0, 1) := by decide +kernel
theorem dX11_stands_1 : decode cX11_stands 1 = .ok (.getfield 85, 3) := by decide +kernel
theorem dX11_stands_4 : decode cX11_stands 4 = .ok (.iload_n 1, 1) := by decide +kernel
theorem dX11_stands_5 : decode cX11_stands 5 = .ok (.invokevirtual 162, 3) := by decide +kernel
theorem dX11_stands_8 : decode cX11_stands 8 = .ok (.astore_n 2, 1) := by decide +kernel
theorem dX11_stands_9 : decode cX11_stands 9 = .ok (.aload_n 2, 1) := by decide +kernel
theorem dX11_stands_10 : decode cX11_stands 10 = .ok (.ifnonnull 7, 3) := by decide +kernel
theorem dX11_stands_13 : decode cX11_stands 13 = .ok (.iconst (-1), 1) := by decide +kernel
theorem dX11_stands_14 : decode cX11_stands 14 = .ok (.goto 7, 3) := by decide +kernel
theorem dX11_stands_17 : decode cX11_stands 17 = .ok (.aload_n 2, 1) := by decide +kernel
theorem dX11_stands_18 : decode cX11_stands 18 = .ok (.invokevirtual 170, 3) := by decide +kernel
theorem dX11_stands_21 : decode cX11_stands 21 = .ok (.ireturn, 1) := by decide +kernel
theorem dX11_standing_0 : decode cX11_standing 0 = .ok (.aload_n 0, 1) := by decide +kernel
theorem dX11_standing_1 : decode cX11_standing 1 = .ok (.getfield 85, 3) := by decide +kernel
theorem dX11_standing_4 : decode cX11_standing 4 = .ok (.iload_n 1, 1) := by decide +kernel
theorem dX11_standing_5 : decode cX11_standing 5 = .ok (.invokevirtual 162, 3) := by decide +kernel
theorem dX11_standing_8 : decode cX11_standing 8 = .ok (.astore 4, 2) := by decide +kernel
theorem dX11_standing_10 : decode cX11_standing 10 = .ok (.aload 4, 2) := by decide +kernel
theorem dX11_standing_12 : decode cX11_standing 12 = .ok (.ifnonnull 7, 3) := by decide +kernel
theorem dX11_standing_15 : decode cX11_standing 15 = .ok (.iconst (-1), 1) := by decide +kernel
theorem dX11_standing_16 : decode cX11_standing 16 = .ok (.goto 17, 3) := by decide +kernel
theorem dX11_standing_19 : decode cX11_standing 19 = .ok (.aload 4, 2) := by decide +kernel
theorem dX11_standing_21 : decode cX11_standing 21 = .ok (.iload_n 2, 1) := by decide +kernel
theorem dX11_standing_22 : decode cX11_standing 22 = .ok (.iload_n 3, 1) := by decide +kernel
theorem dX11_standing_23 : decode cX11_standing 23 = .ok (.aload_n 0, 1) := by decide +kernel
theorem dX11_standing_24 : decode cX11_standing 24 = .ok (.getfield 12, 3) := by decide +kernel
theorem dX11_standing_27 : decode cX11_standing 27 = .ok (.getfield 78, 3) := by decide +kernel
theorem dX11_standing_30 : decode cX11_standing 30 = .ok (.invokevirtual 173, 3) := by decide +kernel
theorem dX11_standing_33 : decode cX11_standing 33 = .ok (.ireturn, 1) := by decide +kernel
theorem dX11_choose_0 : decode cX11_choose 0 = .ok (.iload 4, 2) := by decide +kernel
theorem dX11_choose_2 : decode cX11_choose 2 = .ok (.ifCond .eq 11, 3) := by decide +kernel
theorem dX11_choose_5 : decode cX11_choose 5 = .ok (.iload 4, 2) := by decide +kernel
theorem dX11_choose_7 : decode cX11_choose 7 = .ok (.iconst 1, 1) := by decide +kernel
theorem dX11_choose_8 : decode cX11_choose 8 = .ok (.if_icmp .eq 5, 3) := by decide +kernel
theorem dX11_choose_11 : decode cX11_choose 11 = .ok (.iconst (-1), 1) := by decide +kernel
theorem dX11_choose_12 : decode cX11_choose 12 = .ok (.ireturn, 1) := by decide +kernel
theorem dX11_choose_13 : decode cX11_choose 13 = .ok (.aload_n 0, 1) := by decide +kernel
theorem dX11_choose_14 : decode cX11_choose 14 = .ok (.getfield 85, 3) := by decide +kernel
theorem dX11_choose_17 : decode cX11_choose 17 = .ok (.iload_n 1, 1) := by decide +kernel
theorem dX11_choose_18 : decode cX11_choose 18 = .ok (.iload_n 2, 1) := by decide +kernel
theorem dX11_choose_19 : decode cX11_choose 19 = .ok (.iload_n 3, 1) := by decide +kernel
theorem dX11_choose_20 : decode cX11_choose 20 = .ok (.iconst 4, 1) := by decide +kernel
theorem dX11_choose_21 : decode cX11_choose 21 = .ok (.iload 4, 2) := by decide +kernel
theorem dX11_choose_23 : decode cX11_choose 23 = .ok (.invokevirtual 177, 3) := by decide +kernel
theorem dX11_choose_26 : decode cX11_choose 26 = .ok (.ireturn, 1) := by decide +kernel
theorem dX11_take_0 : decode cX11_take 0 = .ok (.aload_n 0, 1) := by decide +kernel
theorem dX11_take_1 : decode cX11_take 1 = .ok (.getfield 85, 3) := by decide +kernel
theorem dX11_take_4 : decode cX11_take 4 = .ok (.iload_n 1, 1) := by decide +kernel
theorem dX11_take_5 : decode cX11_take 5 = .ok (.iload_n 2, 1) := by decide +kernel
theorem dX11_take_6 : decode cX11_take 6 = .ok (.iload_n 3, 1) := by decide +kernel
theorem dX11_take_7 : decode cX11_take 7 = .ok (.bipush 7, 2) := by decide +kernel
theorem dX11_take_9 : decode cX11_take 9 = .ok (.iconst 0, 1) := by decide +kernel
theorem dX11_take_10 : decode cX11_take 10 = .ok (.invokevirtual 177, 3) := by decide +kernel
theorem dX11_take_13 : decode cX11_take 13 = .ok (.ireturn, 1) := by decide +kernel
theorem dX11_payment_0 : decode cX11_payment 0 = .ok (.iload_n 2, 1) := by decide +kernel
theorem dX11_payment_1 : decode cX11_payment 1 = .ok (.ifCond .lt 8, 3) := by decide +kernel
theorem dX11_payment_4 : decode cX11_payment 4 = .ok (.iload_n 2, 1) := by decide +kernel
theorem dX11_payment_5 : decode cX11_payment 5 = .ok (.iconst 3, 1) := by decide +kernel
theorem dX11_payment_6 : decode cX11_payment 6 = .ok (.if_icmp .le 6, 3) := by decide +kernel
theorem dX11_payment_9 : decode cX11_payment 9 = .ok (.ldc 181, 2) := by decide +kernel
theorem dX11_payment_11 : decode cX11_payment 11 = .ok (.ireturn, 1) := by decide +kernel
theorem dX11_payment_12 : decode cX11_payment 12 = .ok (.aload_n 0, 1) := by decide +kernel
theorem dX11_payment_13 : decode cX11_payment 13 = .ok (.getfield 72, 3) := by decide +kernel
theorem dX11_payment_16 : decode cX11_payment 16 = .ok (.iload_n 1, 1) := by decide +kernel
theorem dX11_payment_17 : decode cX11_payment 17 = .ok (.iload_n 2, 1) := by decide +kernel
theorem dX11_payment_18 : decode cX11_payment 18 = .ok (.invokevirtual 182, 3) := by decide +kernel
theorem dX11_payment_21 : decode cX11_payment 21 = .ok (.ireturn, 1) := by decide +kernel
theorem dX11_got_0 : decode cX11_got 0 = .ok (.aload_n 0, 1) := by decide +kernel
theorem dX11_got_1 : decode cX11_got 1 = .ok (.getfield 85, 3) := by decide +kernel
theorem dX11_got_4 : decode cX11_got 4 = .ok (.iload_n 1, 1) := by decide +kernel
theorem dX11_got_5 : decode cX11_got 5 = .ok (.invokevirtual 162, 3) := by decide +kernel
theorem dX11_got_8 : decode cX11_got 8 = .ok (.astore_n 2, 1) := by decide +kernel
theorem dX11_got_9 : decode cX11_got 9 = .ok (.aload_n 2, 1) := by decide +kernel
theorem dX11_got_10 : decode cX11_got 10 = .ok (.ifnonnull 7, 3) := by decide +kernel
theorem dX11_got_13 : decode cX11_got 13 = .ok (.lconst 0, 1) := by decide +kernel
theorem dX11_got_14 : decode cX11_got 14 = .ok (.goto 7, 3) := by decide +kernel
theorem dX11_got_17 : decode cX11_got 17 = .ok (.aload_n 2, 1) := by decide +kernel
theorem dX11_got_18 : decode cX11_got 18 = .ok (.getfield 185, 3) := by decide +kernel
theorem dX11_got_21 : decode cX11_got 21 = .ok (.lreturn, 1) := by decide +kernel
theorem dX11_net_0 : decode cX11_net 0 = .ok (.iload_n 1, 1) := by decide +kernel
theorem dX11_net_1 : decode cX11_net 1 = .ok (.ifCond .lt 10, 3) := by decide +kernel
theorem dX11_net_4 : decode cX11_net 4 = .ok (.iload_n 1, 1) := by decide +kernel
theorem dX11_net_5 : decode cX11_net 5 = .ok (.sipush 400, 3) := by decide +kernel
theorem dX11_net_8 : decode cX11_net 8 = .ok (.if_icmp .lt 5, 3) := by decide +kernel
theorem dX11_net_11 : decode cX11_net 11 = .ok (.iconst (-1), 1) := by decide +kernel
theorem dX11_net_12 : decode cX11_net 12 = .ok (.ireturn, 1) := by decide +kernel
theorem dX11_net_13 : decode cX11_net 13 = .ok (.aload_n 0, 1) := by decide +kernel
theorem dX11_net_14 : decode cX11_net 14 = .ok (.getfield 72, 3) := by decide +kernel
theorem dX11_net_17 : decode cX11_net 17 = .ok (.iload_n 1, 1) := by decide +kernel
theorem dX11_net_18 : decode cX11_net 18 = .ok (.invokevirtual 189, 3) := by decide +kernel
theorem dX11_net_21 : decode cX11_net 21 = .ok (.ireturn, 1) := by decide +kernel
theorem dX11_netted_0 : decode cX11_netted 0 = .ok (.aload_n 0, 1) := by decide +kernel
theorem dX11_netted_1 : decode cX11_netted 1 = .ok (.getfield 72, 3) := by decide +kernel
theorem dX11_netted_4 : decode cX11_netted 4 = .ok (.iload_n 1, 1) := by decide +kernel
theorem dX11_netted_5 : decode cX11_netted 5 = .ok (.iload_n 2, 1) := by decide +kernel
theorem dX11_netted_6 : decode cX11_netted 6 = .ok (.invokevirtual 192, 3) := by decide +kernel
theorem dX11_netted_9 : decode cX11_netted 9 = .ok (.lreturn, 1) := by decide +kernel
theorem dX11_ways_0 : decode cX11_ways 0 = .ok (.iload_n 1, 1) := by decide +kernel
theorem dX11_ways_1 : decode cX11_ways 1 = .ok (.iconst 1, 1) := by decide +kernel
theorem dX11_ways_2 : decode cX11_ways 2 = .ok (.if_icmp .lt 8, 3) := by decide +kernel
theorem dX11_ways_5 : decode cX11_ways 5 = .ok (.iload_n 1, 1) := by decide +kernel
theorem dX11_ways_6 : decode cX11_ways 6 = .ok (.iconst 3, 1) := by decide +kernel
theorem dX11_ways_7 : decode cX11_ways 7 = .ok (.if_icmp .le 5, 3) := by decide +kernel
theorem dX11_ways_10 : decode cX11_ways 10 = .ok (.iconst 0, 1) := by decide +kernel
theorem dX11_ways_11 : decode cX11_ways 11 = .ok (.ireturn, 1) := by decide +kernel
theorem dX11_ways_12 : decode cX11_ways 12 = .ok (.aload_n 0, 1) := by decide +kernel
theorem dX11_ways_13 : decode cX11_ways 13 = .ok (.getfield 94, 3) := by decide +kernel
theorem dX11_ways_16 : decode cX11_ways 16 = .ok (.iload_n 1, 1) := by decide +kernel
theorem dX11_ways_17 : decode cX11_ways 17 = .ok (.invokevirtual 196, 3) := by decide +kernel
theorem dX11_ways_20 : decode cX11_ways 20 = .ok (.iconst 1, 1) := by decide +kernel
theorem dX11_ways_21 : decode cX11_ways 21 = .ok (.ireturn, 1) := by decide +kernel
theorem dX11_weight_0 : decode cX11_weight 0 = .ok (.aload_n 0, 1) := by decide +kernel
theorem dX11_weight_1 : decode cX11_weight 1 = .ok (.getfield 94, 3) := by decide +kernel
theorem dX11_weight_4 : decode cX11_weight 4 = .ok (.iload_n 1, 1) := by decide +kernel
theorem dX11_weight_5 : decode cX11_weight 5 = .ok (.iload_n 2, 1) := by decide +kernel
theorem dX11_weight_6 : decode cX11_weight 6 = .ok (.invokevirtual 199, 3) := by decide +kernel
theorem dX11_weight_9 : decode cX11_weight 9 = .ok (.ireturn, 1) := by decide +kernel
theorem dX11_adds_0 : decode cX11_adds 0 = .ok (.aload_n 0, 1) := by decide +kernel
theorem dX11_adds_1 : decode cX11_adds 1 = .ok (.getfield 94, 3) := by decide +kernel
theorem dX11_adds_4 : decode cX11_adds 4 = .ok (.iload_n 1, 1) := by decide +kernel
theorem dX11_adds_5 : decode cX11_adds 5 = .ok (.iload_n 2, 1) := by decide +kernel
theorem dX11_adds_6 : decode cX11_adds 6 = .ok (.iload_n 3, 1) := by decide +kernel
theorem dX11_adds_7 : decode cX11_adds 7 = .ok (.invokevirtual 203, 3) := by decide +kernel
theorem dX11_adds_10 : decode cX11_adds 10 = .ok (.ireturn, 1) := by decide +kernel
theorem dX11_worth_0 : decode cX11_worth 0 = .ok (.aload_n 0, 1) := by decide +kernel
theorem dX11_worth_1 : decode cX11_worth 1 = .ok (.iload_n 1, 1) := by decide +kernel
theorem dX11_worth_2 : decode cX11_worth 2 = .ok (.invokevirtual 126, 3) := by decide +kernel
theorem dX11_worth_5 : decode cX11_worth 5 = .ok (.astore 4, 2) := by decide +kernel
theorem dX11_worth_7 : decode cX11_worth 7 = .ok (.aload 4, 2) := by decide +kernel
theorem dX11_worth_9 : decode cX11_worth 9 = .ok (.ifnull 19, 3) := by decide +kernel
theorem dX11_worth_12 : decode cX11_worth 12 = .ok (.iload_n 2, 1) := by decide +kernel
theorem dX11_worth_13 : decode cX11_worth 13 = .ok (.invokestatic 206, 3) := by decide +kernel
theorem dX11_worth_16 : decode cX11_worth 16 = .ok (.ifCond .eq 12, 3) := by decide +kernel
theorem dX11_worth_19 : decode cX11_worth 19 = .ok (.iload_n 3, 1) := by decide +kernel
theorem dX11_worth_20 : decode cX11_worth 20 = .ok (.ifCond .lt 8, 3) := by decide +kernel
theorem dX11_worth_23 : decode cX11_worth 23 = .ok (.iload_n 3, 1) := by decide +kernel
theorem dX11_worth_24 : decode cX11_worth 24 = .ok (.iconst 3, 1) := by decide +kernel
theorem dX11_worth_25 : decode cX11_worth 25 = .ok (.if_icmp .le 7, 3) := by decide +kernel
theorem dX11_worth_28 : decode cX11_worth 28 = .ok (.ldc2_w 209, 3) := by decide +kernel
theorem dX11_worth_31 : decode cX11_worth 31 = .ok (.lreturn, 1) := by decide +kernel
theorem dX11_worth_32 : decode cX11_worth 32 = .ok (.iload_n 3, 1) := by decide +kernel
theorem dX11_worth_33 : decode cX11_worth 33 = .ok (.iconst 3, 1) := by decide +kernel
theorem dX11_worth_34 : decode cX11_worth 34 = .ok (.if_icmp .ne 14, 3) := by decide +kernel
theorem dX11_worth_37 : decode cX11_worth 37 = .ok (.aload_n 0, 1) := by decide +kernel
theorem dX11_worth_38 : decode cX11_worth 38 = .ok (.getfield 94, 3) := by decide +kernel
theorem dX11_worth_41 : decode cX11_worth 41 = .ok (.iload_n 2, 1) := by decide +kernel
theorem dX11_worth_42 : decode cX11_worth 42 = .ok (.invokevirtual 211, 3) := by decide +kernel
theorem dX11_worth_45 : decode cX11_worth 45 = .ok (.goto 14, 3) := by decide +kernel
theorem dX11_worth_48 : decode cX11_worth 48 = .ok (.aload_n 0, 1) := by decide +kernel
theorem dX11_worth_49 : decode cX11_worth 49 = .ok (.getfield 94, 3) := by decide +kernel
theorem dX11_worth_52 : decode cX11_worth 52 = .ok (.aload 4, 2) := by decide +kernel
theorem dX11_worth_54 : decode cX11_worth 54 = .ok (.iload_n 2, 1) := by decide +kernel
theorem dX11_worth_55 : decode cX11_worth 55 = .ok (.iload_n 3, 1) := by decide +kernel
theorem dX11_worth_56 : decode cX11_worth 56 = .ok (.invokevirtual 215, 3) := by decide +kernel
theorem dX11_worth_59 : decode cX11_worth 59 = .ok (.lreturn, 1) := by decide +kernel
theorem dX11_comeTo_0 : decode cX11_comeTo 0 = .ok (.aload_n 0, 1) := by decide +kernel
theorem dX11_comeTo_1 : decode cX11_comeTo 1 = .ok (.iload_n 1, 1) := by decide +kernel
theorem dX11_comeTo_2 : decode cX11_comeTo 2 = .ok (.invokevirtual 126, 3) := by decide +kernel
theorem dX11_comeTo_5 : decode cX11_comeTo 5 = .ok (.astore 4, 2) := by decide +kernel
theorem dX11_comeTo_7 : decode cX11_comeTo 7 = .ok (.aload 4, 2) := by decide +kernel
theorem dX11_comeTo_9 : decode cX11_comeTo 9 = .ok (.ifnull 23, 3) := by decide +kernel
theorem dX11_comeTo_12 : decode cX11_comeTo 12 = .ok (.iload_n 2, 1) := by decide +kernel
theorem dX11_comeTo_13 : decode cX11_comeTo 13 = .ok (.invokestatic 206, 3) := by decide +kernel
theorem dX11_comeTo_16 : decode cX11_comeTo 16 = .ok (.ifCond .eq 16, 3) := by decide +kernel
theorem dX11_comeTo_19 : decode cX11_comeTo 19 = .ok (.iload_n 3, 1) := by decide +kernel
theorem dX11_comeTo_20 : decode cX11_comeTo 20 = .ok (.ifCond .lt 12, 3) := by decide +kernel
theorem dX11_comeTo_23 : decode cX11_comeTo 23 = .ok (.iload_n 3, 1) := by decide +kernel
theorem dX11_comeTo_24 : decode cX11_comeTo 24 = .ok (.aload 4, 2) := by decide +kernel
theorem dX11_comeTo_26 : decode cX11_comeTo 26 = .ok (.invokevirtual 133, 3) := by decide +kernel
theorem dX11_comeTo_29 : decode cX11_comeTo 29 = .ok (.if_icmp .lt 5, 3) := by decide +kernel
theorem dX11_comeTo_32 : decode cX11_comeTo 32 = .ok (.iconst (-1), 1) := by decide +kernel
theorem dX11_comeTo_33 : decode cX11_comeTo 33 = .ok (.ireturn, 1) := by decide +kernel
theorem dX11_comeTo_34 : decode cX11_comeTo 34 = .ok (.aload_n 0, 1) := by decide +kernel
theorem dX11_comeTo_35 : decode cX11_comeTo 35 = .ok (.getfield 94, 3) := by decide +kernel
theorem dX11_comeTo_38 : decode cX11_comeTo 38 = .ok (.aload 4, 2) := by decide +kernel
theorem dX11_comeTo_40 : decode cX11_comeTo 40 = .ok (.iload_n 2, 1) := by decide +kernel
theorem dX11_comeTo_41 : decode cX11_comeTo 41 = .ok (.iload_n 3, 1) := by decide +kernel
theorem dX11_comeTo_42 : decode cX11_comeTo 42 = .ok (.invokevirtual 219, 3) := by decide +kernel
theorem dX11_comeTo_45 : decode cX11_comeTo 45 = .ok (.ifCond .eq 7, 3) := by decide +kernel
theorem dX11_comeTo_48 : decode cX11_comeTo 48 = .ok (.iconst 1, 1) := by decide +kernel
theorem dX11_comeTo_49 : decode cX11_comeTo 49 = .ok (.goto 4, 3) := by decide +kernel
theorem dX11_comeTo_52 : decode cX11_comeTo 52 = .ok (.iconst 0, 1) := by decide +kernel
theorem dX11_comeTo_53 : decode cX11_comeTo 53 = .ok (.ireturn, 1) := by decide +kernel
theorem dX11_parted_0 : decode cX11_parted 0 = .ok (.aload_n 0, 1) := by decide +kernel
theorem dX11_parted_1 : decode cX11_parted 1 = .ok (.iload_n 1, 1) := by decide +kernel
theorem dX11_parted_2 : decode cX11_parted 2 = .ok (.invokevirtual 126, 3) := by decide +kernel
theorem dX11_parted_5 : decode cX11_parted 5 = .ok (.astore 4, 2) := by decide +kernel
theorem dX11_parted_7 : decode cX11_parted 7 = .ok (.aload_n 0, 1) := by decide +kernel
theorem dX11_parted_8 : decode cX11_parted 8 = .ok (.iload_n 2, 1) := by decide +kernel
theorem dX11_parted_9 : decode cX11_parted 9 = .ok (.invokevirtual 126, 3) := by decide +kernel
theorem dX11_parted_12 : decode cX11_parted 12 = .ok (.astore 5, 2) := by decide +kernel
theorem dX11_parted_14 : decode cX11_parted 14 = .ok (.aload 4, 2) := by decide +kernel
theorem dX11_parted_16 : decode cX11_parted 16 = .ok (.ifnull 31, 3) := by decide +kernel
theorem dX11_parted_19 : decode cX11_parted 19 = .ok (.aload 5, 2) := by decide +kernel
theorem dX11_parted_21 : decode cX11_parted 21 = .ok (.ifnull 26, 3) := by decide +kernel
theorem dX11_parted_24 : decode cX11_parted 24 = .ok (.iload_n 3, 1) := by decide +kernel
theorem dX11_parted_25 : decode cX11_parted 25 = .ok (.invokestatic 206, 3) := by decide +kernel
theorem dX11_parted_28 : decode cX11_parted 28 = .ok (.ifCond .eq 19, 3) := by decide +kernel
theorem dX11_parted_31 : decode cX11_parted 31 = .ok (.aload 4, 2) := by decide +kernel
theorem dX11_parted_33 : decode cX11_parted 33 = .ok (.invokevirtual 223, 3) := by decide +kernel
theorem dX11_parted_36 : decode cX11_parted 36 = .ok (.ifCond .ne 11, 3) := by decide +kernel
theorem dX11_parted_39 : decode cX11_parted 39 = .ok (.aload 5, 2) := by decide +kernel
theorem dX11_parted_41 : decode cX11_parted 41 = .ok (.invokevirtual 223, 3) := by decide +kernel
theorem dX11_parted_44 : decode cX11_parted 44 = .ok (.ifCond .eq 5, 3) := by decide +kernel
theorem dX11_parted_47 : decode cX11_parted 47 = .ok (.iconst (-1), 1) := by decide +kernel
theorem dX11_parted_48 : decode cX11_parted 48 = .ok (.ireturn, 1) := by decide +kernel
theorem dX11_parted_49 : decode cX11_parted 49 = .ok (.aload_n 0, 1) := by decide +kernel
theorem dX11_parted_50 : decode cX11_parted 50 = .ok (.getfield 94, 3) := by decide +kernel
theorem dX11_parted_53 : decode cX11_parted 53 = .ok (.aload 4, 2) := by decide +kernel
theorem dX11_parted_55 : decode cX11_parted 55 = .ok (.iload_n 3, 1) := by decide +kernel
theorem dX11_parted_56 : decode cX11_parted 56 = .ok (.invokevirtual 226, 3) := by decide +kernel
theorem dX11_parted_59 : decode cX11_parted 59 = .ok (.aload_n 0, 1) := by decide +kernel
theorem dX11_parted_60 : decode cX11_parted 60 = .ok (.getfield 94, 3) := by decide +kernel
theorem dX11_parted_63 : decode cX11_parted 63 = .ok (.aload 4, 2) := by decide +kernel
theorem dX11_parted_65 : decode cX11_parted 65 = .ok (.aload 5, 2) := by decide +kernel
theorem dX11_parted_67 : decode cX11_parted 67 = .ok (.iconst 0, 1) := by decide +kernel
theorem dX11_parted_68 : decode cX11_parted 68 = .ok (.iconst 0, 1) := by decide +kernel
theorem dX11_parted_69 : decode cX11_parted 69 = .ok (.invokevirtual 230, 3) := by decide +kernel
theorem dX11_parted_72 : decode cX11_parted 72 = .ok (.ireturn, 1) := by decide +kernel
theorem dX11_count_0 : decode cX11_count 0 = .ok (.iload_n 1, 1) := by decide +kernel
theorem dX11_count_1 : decode cX11_count 1 = .ok (.tableswitch 111 0 7 #[47, 58, 63, 71, 79, 87, 95, 103], 47) := by decide +kernel
theorem dX11_count_48 : decode cX11_count 48 = .ok (.aload_n 0, 1) := by decide +kernel
theorem dX11_count_49 : decode cX11_count 49 = .ok (.getfield 12, 3) := by decide +kernel
theorem dX11_count_52 : decode cX11_count 52 = .ok (.getfield 78, 3) := by decide +kernel
theorem dX11_count_55 : decode cX11_count 55 = .ok (.getfield 234, 3) := by decide +kernel
theorem dX11_count_58 : decode cX11_count 58 = .ok (.ireturn, 1) := by decide +kernel
theorem dX11_count_59 : decode cX11_count 59 = .ok (.aload_n 0, 1) := by decide +kernel
theorem dX11_count_60 : decode cX11_count 60 = .ok (.getfield 116, 3) := by decide +kernel
theorem dX11_count_63 : decode cX11_count 63 = .ok (.ireturn, 1) := by decide +kernel
theorem dX11_count_64 : decode cX11_count 64 = .ok (.aload_n 0, 1) := by decide +kernel
theorem dX11_count_65 : decode cX11_count 65 = .ok (.getfield 85, 3) := by decide +kernel
theorem dX11_count_68 : decode cX11_count 68 = .ok (.invokevirtual 239, 3) := by decide +kernel
theorem dX11_count_71 : decode cX11_count 71 = .ok (.ireturn, 1) := by decide +kernel
theorem dX11_count_72 : decode cX11_count 72 = .ok (.aload_n 0, 1) := by decide +kernel
theorem dX11_count_73 : decode cX11_count 73 = .ok (.getfield 72, 3) := by decide +kernel
theorem dX11_count_76 : decode cX11_count 76 = .ok (.invokevirtual 161, 3) := by decide +kernel
theorem dX11_count_79 : decode cX11_count 79 = .ok (.ireturn, 1) := by decide +kernel
theorem dX11_count_80 : decode cX11_count 80 = .ok (.aload_n 0, 1) := by decide +kernel
theorem dX11_count_81 : decode cX11_count 81 = .ok (.getfield 21, 3) := by decide +kernel
theorem dX11_count_84 : decode cX11_count 84 = .ok (.invokevirtual 106, 3) := by decide +kernel
theorem dX11_count_87 : decode cX11_count 87 = .ok (.ireturn, 1) := by decide +kernel
theorem dX11_count_88 : decode cX11_count 88 = .ok (.aload_n 0, 1) := by decide +kernel
theorem dX11_count_89 : decode cX11_count 89 = .ok (.getfield 25, 3) := by decide +kernel
theorem dX11_count_92 : decode cX11_count 92 = .ok (.invokevirtual 106, 3) := by decide +kernel
theorem dX11_count_95 : decode cX11_count 95 = .ok (.ireturn, 1) := by decide +kernel
theorem dX11_count_96 : decode cX11_count 96 = .ok (.aload_n 0, 1) := by decide +kernel
theorem dX11_count_97 : decode cX11_count 97 = .ok (.getfield 94, 3) := by decide +kernel
theorem dX11_count_100 : decode cX11_count 100 = .ok (.invokevirtual 240, 3) := by decide +kernel
theorem dX11_count_103 : decode cX11_count 103 = .ok (.ireturn, 1) := by decide +kernel
theorem dX11_count_104 : decode cX11_count 104 = .ok (.aload_n 0, 1) := by decide +kernel
theorem dX11_count_105 : decode cX11_count 105 = .ok (.getfield 72, 3) := by decide +kernel
theorem dX11_count_108 : decode cX11_count 108 = .ok (.getfield 241, 3) := by decide +kernel
theorem dX11_count_111 : decode cX11_count 111 = .ok (.ireturn, 1) := by decide +kernel
theorem dX11_count_112 : decode cX11_count 112 = .ok (.iconst (-1), 1) := by decide +kernel
theorem dX11_count_113 : decode cX11_count 113 = .ok (.ireturn, 1) := by decide +kernel
theorem dX11_formAt_0 : decode cX11_formAt 0 = .ok (.iload_n 1, 1) := by decide +kernel
theorem dX11_formAt_1 : decode cX11_formAt 1 = .ok (.ifCond .lt 26, 3) := by decide +kernel
theorem dX11_formAt_4 : decode cX11_formAt 4 = .ok (.iload_n 1, 1) := by decide +kernel
theorem dX11_formAt_5 : decode cX11_formAt 5 = .ok (.aload_n 0, 1) := by decide +kernel
theorem dX11_formAt_6 : decode cX11_formAt 6 = .ok (.getfield 116, 3) := by decide +kernel
theorem dX11_formAt_9 : decode cX11_formAt 9 = .ok (.if_icmp .ge 18, 3) := by decide +kernel
theorem dX11_formAt_12 : decode cX11_formAt 12 = .ok (.iload_n 1, 1) := by decide +kernel
theorem dX11_formAt_13 : decode cX11_formAt 13 = .ok (.bipush 20, 2) := by decide +kernel
theorem dX11_formAt_15 : decode cX11_formAt 15 = .ok (.if_icmp .ge 12, 3) := by decide +kernel
theorem dX11_formAt_18 : decode cX11_formAt 18 = .ok (.aload_n 0, 1) := by decide +kernel
theorem dX11_formAt_19 : decode cX11_formAt 19 = .ok (.getfield 30, 3) := by decide +kernel
theorem dX11_formAt_22 : decode cX11_formAt 22 = .ok (.iload_n 1, 1) := by decide +kernel
theorem dX11_formAt_23 : decode cX11_formAt 23 = .ok (.aaload, 1) := by decide +kernel
theorem dX11_formAt_24 : decode cX11_formAt 24 = .ok (.goto 4, 3) := by decide +kernel
theorem dX11_formAt_27 : decode cX11_formAt 27 = .ok (.aconst_null, 1) := by decide +kernel
theorem dX11_formAt_28 : decode cX11_formAt 28 = .ok (.areturn, 1) := by decide +kernel
theorem dX11_isHouse_0 : decode cX11_isHouse 0 = .ok (.iload_n 0, 1) := by decide +kernel
theorem dX11_isHouse_1 : decode cX11_isHouse 1 = .ok (.ifCond .lt 13, 3) := by decide +kernel
theorem dX11_isHouse_4 : decode cX11_isHouse 4 = .ok (.iload_n 0, 1) := by decide +kernel
theorem dX11_isHouse_5 : decode cX11_isHouse 5 = .ok (.bipush 8, 2) := by decide +kernel
theorem dX11_isHouse_7 : decode cX11_isHouse 7 = .ok (.if_icmp .ge 7, 3) := by decide +kernel
theorem dX11_isHouse_10 : decode cX11_isHouse 10 = .ok (.iconst 1, 1) := by decide +kernel
theorem dX11_isHouse_11 : decode cX11_isHouse 11 = .ok (.goto 4, 3) := by decide +kernel
theorem dX11_isHouse_14 : decode cX11_isHouse 14 = .ok (.iconst 0, 1) := by decide +kernel
theorem dX11_isHouse_15 : decode cX11_isHouse 15 = .ok (.ireturn, 1) := by decide +kernel
theorem dX11_isLetter_0 : decode cX11_isLetter 0 = .ok (.iload_n 0, 1) := by decide +kernel
theorem dX11_isLetter_1 : decode cX11_isLetter 1 = .ok (.bipush 97, 2) := by decide +kernel
theorem dX11_isLetter_3 : decode cX11_isLetter 3 = .ok (.if_icmp .lt 13, 3) := by decide +kernel
theorem dX11_isLetter_6 : decode cX11_isLetter 6 = .ok (.iload_n 0, 1) := by decide +kernel
theorem dX11_isLetter_7 : decode cX11_isLetter 7 = .ok (.bipush 122, 2) := by decide +kernel
theorem dX11_isLetter_9 : decode cX11_isLetter 9 = .ok (.if_icmp .gt 7, 3) := by decide +kernel
theorem dX11_isLetter_12 : decode cX11_isLetter 12 = .ok (.iconst 1, 1) := by decide +kernel
theorem dX11_isLetter_13 : decode cX11_isLetter 13 = .ok (.goto 4, 3) := by decide +kernel
theorem dX11_isLetter_16 : decode cX11_isLetter 16 = .ok (.iconst 0, 1) := by decide +kernel
theorem dX11_isLetter_17 : decode cX11_isLetter 17 = .ok (.ireturn, 1) := by decide +kernel
theorem dX11_isAhead_0 : decode cX11_isAhead 0 = .ok (.iload_n 0, 1) := by decide +kernel
theorem dX11_isAhead_1 : decode cX11_isAhead 1 = .ok (.iconst 1, 1) := by decide +kernel
theorem dX11_isAhead_2 : decode cX11_isAhead 2 = .ok (.if_icmp .lt 12, 3) := by decide +kernel
theorem dX11_isAhead_5 : decode cX11_isAhead 5 = .ok (.iload_n 0, 1) := by decide +kernel
theorem dX11_isAhead_6 : decode cX11_isAhead 6 = .ok (.iconst 4, 1) := by decide +kernel
theorem dX11_isAhead_7 : decode cX11_isAhead 7 = .ok (.if_icmp .gt 7, 3) := by decide +kernel
theorem dX11_isAhead_10 : decode cX11_isAhead 10 = .ok (.iconst 1, 1) := by decide +kernel
theorem dX11_isAhead_11 : decode cX11_isAhead 11 = .ok (.goto 4, 3) := by decide +kernel
theorem dX11_isAhead_14 : decode cX11_isAhead 14 = .ok (.iconst 0, 1) := by decide +kernel
theorem dX11_isAhead_15 : decode cX11_isAhead 15 = .ok (.ireturn, 1) := by decide +kernel
