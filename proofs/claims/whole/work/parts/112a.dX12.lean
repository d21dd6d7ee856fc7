theorem dX12_init_0 : decode cX12_init 0 = .ok (.aload_n 0, 1) := by decide +kernel
theorem dX12_init_1 : decode cX12_init 1 = .ok (.invokespecial 1, 3) := by decide +kernel
theorem dX12_init_4 : decode cX12_init 4 = .ok (.aload_n 0, 1) := by decide +kernel
theorem dX12_init_5 : decode cX12_init 5 = .ok (.iconst 1, 1) := by decide +kernel
theorem dX12_init_6 : decode cX12_init 6 = .ok (.putfield 7, 3) := by decide +kernel
theorem dX12_init_9 : decode cX12_init 9 = .ok (.aload_n 0, 1) := by decide +kernel
theorem dX12_init_10 : decode cX12_init 10 = .ok (.sipush 4200, 3) := by decide +kernel
theorem dX12_init_13 : decode cX12_init 13 = .ok (.newarray .int, 2) := by decide +kernel
theorem dX12_init_15 : decode cX12_init 15 = .ok (.putfield 13, 3) := by decide +kernel
theorem dX12_init_18 : decode cX12_init 18 = .ok (.aload_n 0, 1) := by decide +kernel
theorem dX12_init_19 : decode cX12_init 19 = .ok (.sipush 4200, 3) := by decide +kernel
theorem dX12_init_22 : decode cX12_init 22 = .ok (.newarray .int, 2) := by decide +kernel
theorem dX12_init_24 : decode cX12_init 24 = .ok (.putfield 17, 3) := by decide +kernel
theorem dX12_init_27 : decode cX12_init 27 = .ok (.aload_n 0, 1) := by decide +kernel
theorem dX12_init_28 : decode cX12_init 28 = .ok (.sipush 4200, 3) := by decide +kernel
theorem dX12_init_31 : decode cX12_init 31 = .ok (.newarray .int, 2) := by decide +kernel
theorem dX12_init_33 : decode cX12_init 33 = .ok (.putfield 20, 3) := by decide +kernel
theorem dX12_init_36 : decode cX12_init 36 = .ok (.aload_n 0, 1) := by decide +kernel
theorem dX12_init_37 : decode cX12_init 37 = .ok (.sipush 4200, 3) := by decide +kernel
theorem dX12_init_40 : decode cX12_init 40 = .ok (.newarray .int, 2) := by decide +kernel
theorem dX12_init_42 : decode cX12_init 42 = .ok (.putfield 23, 3) := by decide +kernel
theorem dX12_init_45 : decode cX12_init 45 = .ok (.aload_n 0, 1) := by decide +kernel
theorem dX12_init_46 : decode cX12_init 46 = .ok (.sipush 4200, 3) := by decide +kernel
theorem dX12_init_49 : decode cX12_init 49 = .ok (.newarray .int, 2) := by decide +kernel
theorem dX12_init_51 : decode cX12_init 51 = .ok (.putfield 26, 3) := by decide +kernel
theorem dX12_init_54 : decode cX12_init 54 = .ok (.aload_n 0, 1) := by decide +kernel
theorem dX12_init_55 : decode cX12_init 55 = .ok (.ldc 29, 2) := by decide +kernel
theorem dX12_init_57 : decode cX12_init 57 = .ok (.newarray .int, 2) := by decide +kernel
theorem dX12_init_59 : decode cX12_init 59 = .ok (.putfield 30, 3) := by decide +kernel
theorem dX12_init_62 : decode cX12_init 62 = .ok (.aload_n 0, 1) := by decide +kernel
theorem dX12_init_63 : decode cX12_init 63 = .ok (.bipush 9, 2) := by decide +kernel
theorem dX12_init_65 : decode cX12_init 65 = .ok (.newarray .boolean, 2) := by decide +kernel
theorem dX12_init_67 : decode cX12_init 67 = .ok (.putfield 33, 3) := by decide +kernel
theorem dX12_init_70 : decode cX12_init 70 = .ok (.aload_n 0, 1) := by decide +kernel
theorem dX12_init_71 : decode cX12_init 71 = .ok (.bipush 9, 2) := by decide +kernel
theorem dX12_init_73 : decode cX12_init 73 = .ok (.newarray .int, 2) := by decide +kernel
theorem dX12_init_75 : decode cX12_init 75 = .ok (.putfield 37, 3) := by decide +kernel
theorem dX12_init_78 : decode cX12_init 78 = .ok (.aload_n 0, 1) := by decide +kernel
theorem dX12_init_79 : decode cX12_init 79 = .ok (.bipush 9, 2) := by decide +kernel
theorem dX12_init_81 : decode cX12_init 81 = .ok (.newarray .int, 2) := by decide +kernel
theorem dX12_init_83 : decode cX12_init 83 = .ok (.putfield 40, 3) := by decide +kernel
theorem dX12_init_86 : decode cX12_init 86 = .ok (.aload_n 0, 1) := by decide +kernel
theorem dX12_init_87 : decode cX12_init 87 = .ok (.bipush 9, 2) := by decide +kernel
theorem dX12_init_89 : decode cX12_init 89 = .ok (.newarray .int, 2) := by decide +kernel
theorem dX12_init_91 : decode cX12_init 91 = .ok (.putfield 43, 3) := by decide +kernel
theorem dX12_init_94 : decode cX12_init 94 = .ok (.aload_n 0, 1) := by decide +kernel
theorem dX12_init_95 : decode cX12_init 95 = .ok (.bipush 9, 2) := by decide +kernel
theorem dX12_init_97 : decode cX12_init 97 = .ok (.newarray .int, 2) := by decide +kernel
theorem dX12_init_99 : decode cX12_init 99 = .ok (.putfield 46, 3) := by decide +kernel
theorem dX12_init_102 : decode cX12_init 102 = .ok (.aload_n 0, 1) := by decide +kernel
theorem dX12_init_103 : decode cX12_init 103 = .ok (.bipush 9, 2) := by decide +kernel
theorem dX12_init_105 : decode cX12_init 105 = .ok (.newarray .int, 2) := by decide +kernel
theorem dX12_init_107 : decode cX12_init 107 = .ok (.putfield 49, 3) := by decide +kernel
theorem dX12_init_110 : decode cX12_init 110 = .ok (.aload_n 0, 1) := by decide +kernel
theorem dX12_init_111 : decode cX12_init 111 = .ok (.bipush 9, 2) := by decide +kernel
theorem dX12_init_113 : decode cX12_init 113 = .ok (.newarray .int, 2) := by decide +kernel
theorem dX12_init_115 : decode cX12_init 115 = .ok (.putfield 52, 3) := by decide +kernel
theorem dX12_init_118 : decode cX12_init 118 = .ok (.aload_n 0, 1) := by decide +kernel
theorem dX12_init_119 : decode cX12_init 119 = .ok (.bipush 9, 2) := by decide +kernel
theorem dX12_init_121 : decode cX12_init 121 = .ok (.newarray .int, 2) := by decide +kernel
theorem dX12_init_123 : decode cX12_init 123 = .ok (.putfield 55, 3) := by decide +kernel
theorem dX12_init_126 : decode cX12_init 126 = .ok (.aload_n 0, 1) := by decide +kernel
theorem dX12_init_127 : decode cX12_init 127 = .ok (.sipush 5760, 3) := by decide +kernel
theorem dX12_init_130 : decode cX12_init 130 = .ok (.newarray .int, 2) := by decide +kernel
theorem dX12_init_132 : decode cX12_init 132 = .ok (.putfield 58, 3) := by decide +kernel
theorem dX12_init_135 : decode cX12_init 135 = .ok (.aload_n 0, 1) := by decide +kernel
theorem dX12_init_136 : decode cX12_init 136 = .ok (.sipush 360, 3) := by decide +kernel
theorem dX12_init_139 : decode cX12_init 139 = .ok (.newarray .int, 2) := by decide +kernel
theorem dX12_init_141 : decode cX12_init 141 = .ok (.putfield 61, 3) := by decide +kernel
theorem dX12_init_144 : decode cX12_init 144 = .ok (.aload_n 0, 1) := by decide +kernel
theorem dX12_init_145 : decode cX12_init 145 = .ok (.sipush 360, 3) := by decide +kernel
theorem dX12_init_148 : decode cX12_init 148 = .ok (.newarray .int, 2) := by decide +kernel
theorem dX12_init_150 : decode cX12_init 150 = .ok (.putfield 64, 3) := by decide +kernel
theorem dX12_init_153 : decode cX12_init 153 = .ok (.aload_n 0, 1) := by decide +kernel
theorem dX12_init_154 : decode cX12_init 154 = .ok (.sipush 144, 3) := by decide +kernel
theorem dX12_init_157 : decode cX12_init 157 = .ok (.newarray .int, 2) := by decide +kernel
theorem dX12_init_159 : decode cX12_init 159 = .ok (.putfield 67, 3) := by decide +kernel
theorem dX12_init_162 : decode cX12_init 162 = .ok (.aload_n 0, 1) := by decide +kernel
theorem dX12_init_163 : decode cX12_init 163 = .ok (.sipush 144, 3) := by decide +kernel
theorem dX12_init_166 : decode cX12_init 166 = .ok (.newarray .int, 2) := by decide +kernel
theorem dX12_init_168 : decode cX12_init 168 = .ok (.putfield 70, 3) := by decide +kernel
theorem dX12_init_171 : decode cX12_init 171 = .ok (.aload_n 0, 1) := by decide +kernel
theorem dX12_init_172 : decode cX12_init 172 = .ok (.bipush 9, 2) := by decide +kernel
theorem dX12_init_174 : decode cX12_init 174 = .ok (.newarray .int, 2) := by decide +kernel
theorem dX12_init_176 : decode cX12_init 176 = .ok (.putfield 73, 3) := by decide +kernel
theorem dX12_init_179 : decode cX12_init 179 = .ok (.aload_n 0, 1) := by decide +kernel
theorem dX12_init_180 : decode cX12_init 180 = .ok (.bipush 9, 2) := by decide +kernel
theorem dX12_init_182 : decode cX12_init 182 = .ok (.newarray .int, 2) := by decide +kernel
theorem dX12_init_184 : decode cX12_init 184 = .ok (.putfield 76, 3) := by decide +kernel
theorem dX12_init_187 : decode cX12_init 187 = .ok (.aload_n 0, 1) := by decide +kernel
theorem dX12_init_188 : decode cX12_init 188 = .ok (.bipush 9, 2) := by decide +kernel
theorem dX12_init_190 : decode cX12_init 190 = .ok (.newarray .int, 2) := by decide +kernel
theorem dX12_init_192 : decode cX12_init 192 = .ok (.putfield 79, 3) := by decide +kernel
theorem dX12_init_195 : decode cX12_init 195 = .ok (.aload_n 0, 1) := by decide +kernel
theorem dX12_init_196 : decode cX12_init 196 = .ok (.bipush 9, 2) := by decide +kernel
theorem dX12_init_198 : decode cX12_init 198 = .ok (.newarray .int, 2) := by decide +kernel
theorem dX12_init_200 : decode cX12_init 200 = .ok (.putfield 82, 3) := by decide +kernel
theorem dX12_init_203 : decode cX12_init 203 = .ok (.aload_n 0, 1) := by decide +kernel
theorem dX12_init_204 : decode cX12_init 204 = .ok (.bipush 9, 2) := by decide +kernel
theorem dX12_init_206 : decode cX12_init 206 = .ok (.newarray .int, 2) := by decide +kernel
theorem dX12_init_208 : decode cX12_init 208 = .ok (.putfield 85, 3) := by decide +kernel
theorem dX12_init_211 : decode cX12_init 211 = .ok (.aload_n 0, 1) := by decide +kernel
theorem dX12_init_212 : decode cX12_init 212 = .ok (.bipush 9, 2) := by decide +kernel
theorem dX12_init_214 : decode cX12_init 214 = .ok (.newarray .int, 2) := by decide +kernel
theorem dX12_init_216 : decode cX12_init 216 = .ok (.putfield 88, 3) := by decide +kernel
theorem dX12_init_219 : decode cX12_init 219 = .ok (.aload_n 0, 1) := by decide +kernel
theorem dX12_init_220 : decode cX12_init 220 = .ok (.bipush 9, 2) := by decide +kernel
theorem dX12_init_222 : decode cX12_init 222 = .ok (.newarray .int, 2) := by decide +kernel
theorem dX12_init_224 : decode cX12_init 224 = .ok (.putfield 91, 3) := by decide +kernel
theorem dX12_init_227 : decode cX12_init 227 = .ok (.aload_n 0, 1) := by decide +kernel
theorem dX12_init_228 : decode cX12_init 228 = .ok (.bipush 72, 2) := by decide +kernel
theorem dX12_init_230 : decode cX12_init 230 = .ok (.newarray .int, 2) := by decide +kernel
theorem dX12_init_232 : decode cX12_init 232 = .ok (.putfield 94, 3) := by decide +kernel
theorem dX12_init_235 : decode cX12_init 235 = .ok (.aload_n 0, 1) := by decide +kernel
theorem dX12_init_236 : decode cX12_init 236 = .ok (.bipush 9, 2) := by decide +kernel
theorem dX12_init_238 : decode cX12_init 238 = .ok (.newarray .int, 2) := by decide +kernel
theorem dX12_init_240 : decode cX12_init 240 = .ok (.putfield 97, 3) := by decide +kernel
theorem dX12_init_243 : decode cX12_init 243 = .ok (.aload_n 0, 1) := by decide +kernel
theorem dX12_init_244 : decode cX12_init 244 = .ok (.sipush 2304, 3) := by decide +kernel
theorem dX12_init_247 : decode cX12_init 247 = .ok (.newarray .int, 2) := by decide +kernel
theorem dX12_init_249 : decode cX12_init 249 = .ok (.putfield 100, 3) := by decide +kernel
theorem dX12_init_252 : decode cX12_init 252 = .ok (.aload_n 0, 1) := by decide +kernel
theorem dX12_init_253 : decode cX12_init 253 = .ok (.ldc 103, 2) := by decide +kernel
theorem dX12_init_255 : decode cX12_init 255 = .ok (.newarray .int, 2) := by decide +kernel
theorem dX12_init_257 : decode cX12_init 257 = .ok (.putfield 104, 3) := by decide +kernel
theorem dX12_init_260 : decode cX12_init 260 = .ok (.aload_n 0, 1) := by decide +kernel
theorem dX12_init_261 : decode cX12_init 261 = .ok (.bipush 9, 2) := by decide +kernel
theorem dX12_init_263 : decode cX12_init 263 = .ok (.newarray .int, 2) := by decide +kernel
theorem dX12_init_265 : decode cX12_init 265 = .ok (.putfield 107, 3) := by decide +kernel
theorem dX12_init_268 : decode cX12_init 268 = .ok (.aload_n 0, 1) := by decide +kernel
theorem dX12_init_269 : decode cX12_init 269 = .ok (.bipush 9, 2) := by decide +kernel
theorem dX12_init_271 : decode cX12_init 271 = .ok (.newarray .int, 2) := by decide +kernel
theorem dX12_init_273 : decode cX12_init 273 = .ok (.putfield 110, 3) := by decide +kernel
theorem dX12_init_276 : decode cX12_init 276 = .ok (.aload_n 0, 1) := by decide +kernel
theorem dX12_init_277 : decode cX12_init 277 = .ok (.bipush 9, 2) := by decide +kernel
theorem dX12_init_279 : decode cX12_init 279 = .ok (.newarray .int, 2) := by decide +kernel
theorem dX12_init_281 : decode cX12_init 281 = .ok (.putfield 113, 3) := by decide +kernel
theorem dX12_init_284 : decode cX12_init 284 = .ok (.aload_n 0, 1) := by decide +kernel
theorem dX12_init_285 : decode cX12_init 285 = .ok (.bipush 9, 2) := by decide +kernel
theorem dX12_init_287 : decode cX12_init 287 = .ok (.newarray .int, 2) := by decide +kernel
theorem dX12_init_289 : decode cX12_init 289 = .ok (.putfield 116, 3) := by decide +kernel
theorem dX12_init_292 : decode cX12_init 292 = .ok (.aload_n 0, 1) := by decide +kernel
theorem dX12_init_293 : decode cX12_init 293 = .ok (.bipush 9, 2) := by decide +kernel
theorem dX12_init_295 : decode cX12_init 295 = .ok (.newarray .int, 2) := by decide +kernel
theorem dX12_init_297 : decode cX12_init 297 = .ok (.putfield 119, 3) := by decide +kernel
theorem dX12_init_300 : decode cX12_init 300 = .ok (.aload_n 0, 1) := by decide +kernel
theorem dX12_init_301 : decode cX12_init 301 = .ok (.bipush 9, 2) := by decide +kernel
theorem dX12_init_303 : decode cX12_init 303 = .ok (.newarray .int, 2) := by decide +kernel
theorem dX12_init_305 : decode cX12_init 305 = .ok (.putfield 122, 3) := by decide +kernel
theorem dX12_init_308 : decode cX12_init 308 = .ok (.aload_n 0, 1) := by decide +kernel
theorem dX12_init_309 : decode cX12_init 309 = .ok (.ldc 125, 2) := by decide +kernel
theorem dX12_init_311 : decode cX12_init 311 = .ok (.newarray .byte, 2) := by decide +kernel
theorem dX12_init_313 : decode cX12_init 313 = .ok (.putfield 126, 3) := by decide +kernel
theorem dX12_init_316 : decode cX12_init 316 = .ok (.aload_n 0, 1) := by decide +kernel
theorem dX12_init_317 : decode cX12_init 317 = .ok (.bipush 100, 2) := by decide +kernel
theorem dX12_init_319 : decode cX12_init 319 = .ok (.newarray .int, 2) := by decide +kernel
theorem dX12_init_321 : decode cX12_init 321 = .ok (.putfield 130, 3) := by decide +kernel
theorem dX12_init_324 : decode cX12_init 324 = .ok (.aload_n 0, 1) := by decide +kernel
theorem dX12_init_325 : decode cX12_init 325 = .ok (.sipush 2400, 3) := by decide +kernel
theorem dX12_init_328 : decode cX12_init 328 = .ok (.newarray .int, 2) := by decide +kernel
theorem dX12_init_330 : decode cX12_init 330 = .ok (.putfield 133, 3) := by decide +kernel
theorem dX12_init_333 : decode cX12_init 333 = .ok (.aload_n 0, 1) := by decide +kernel
theorem dX12_init_334 : decode cX12_init 334 = .ok (.sipush 1608, 3) := by decide +kernel
theorem dX12_init_337 : decode cX12_init 337 = .ok (.newarray .int, 2) := by decide +kernel
theorem dX12_init_339 : decode cX12_init 339 = .ok (.putfield 136, 3) := by decide +kernel
theorem dX12_init_342 : decode cX12_init 342 = .ok (.aload_n 0, 1) := by decide +kernel
theorem dX12_init_343 : decode cX12_init 343 = .ok (.sipush 20100, 3) := by decide +kernel
theorem dX12_init_346 : decode cX12_init 346 = .ok (.newarray .int, 2) := by decide +kernel
theorem dX12_init_348 : decode cX12_init 348 = .ok (.putfield 139, 3) := by decide +kernel
theorem dX12_init_351 : decode cX12_init 351 = .ok (.aload_n 0, 1) := by decide +kernel
theorem dX12_init_352 : decode cX12_init 352 = .ok (.sipush 201, 3) := by decide +kernel
theorem dX12_init_355 : decode cX12_init 355 = .ok (.newarray .int, 2) := by decide +kernel
theorem dX12_init_357 : decode cX12_init 357 = .ok (.putfield 142, 3) := by decide +kernel
theorem dX12_init_360 : decode cX12_init 360 = .ok (.aload_n 0, 1) := by decide +kernel
theorem dX12_init_361 : decode cX12_init 361 = .ok (.sipush 400, 3) := by decide +kernel
theorem dX12_init_364 : decode cX12_init 364 = .ok (.newarray .int, 2) := by decide +kernel
theorem dX12_init_366 : decode cX12_init 366 = .ok (.putfield 145, 3) := by decide +kernel
theorem dX12_init_369 : decode cX12_init 369 = .ok (.aload_n 0, 1) := by decide +kernel
theorem dX12_init_370 : decode cX12_init 370 = .ok (.bipush 9, 2) := by decide +kernel
theorem dX12_init_372 : decode cX12_init 372 = .ok (.newarray .int, 2) := by decide +kernel
theorem dX12_init_374 : decode cX12_init 374 = .ok (.putfield 148, 3) := by decide +kernel
theorem dX12_init_377 : decode cX12_init 377 = .ok (.aload_n 0, 1) := by decide +kernel
theorem dX12_init_378 : decode cX12_init 378 = .ok (.bipush 9, 2) := by decide +kernel
theorem dX12_init_380 : decode cX12_init 380 = .ok (.newarray .int, 2) := by decide +kernel
theorem dX12_init_382 : decode cX12_init 382 = .ok (.putfield 151, 3) := by decide +kernel
theorem dX12_init_385 : decode cX12_init 385 = .ok (.aload_n 0, 1) := by decide +kernel
theorem dX12_init_386 : decode cX12_init 386 = .ok (.bipush 100, 2) := by decide +kernel
theorem dX12_init_388 : decode cX12_init 388 = .ok (.newarray .int, 2) := by decide +kernel
theorem dX12_init_390 : decode cX12_init 390 = .ok (.putfield 154, 3) := by decide +kernel
theorem dX12_init_393 : decode cX12_init 393 = .ok (.aload_n 0, 1) := by decide +kernel
theorem dX12_init_394 : decode cX12_init 394 = .ok (.bipush 16, 2) := by decide +kernel
theorem dX12_init_396 : decode cX12_init 396 = .ok (.newarray .int, 2) := by decide +kernel
theorem dX12_init_398 : decode cX12_init 398 = .ok (.putfield 157, 3) := by decide +kernel
theorem dX12_init_401 : decode cX12_init 401 = .ok (.aload_n 0, 1) := by decide +kernel
theorem dX12_init_402 : decode cX12_init 402 = .ok (.bipush 16, 2) := by decide +kernel
theorem dX12_init_404 : decode cX12_init 404 = .ok (.newarray .int, 2) := by decide +kernel
theorem dX12_init_406 : decode cX12_init 406 = .ok (.putfield 160, 3) := by decide +kernel
theorem dX12_init_409 : decode cX12_init 409 = .ok (.aload_n 0, 1) := by decide +kernel
theorem dX12_init_410 : decode cX12_init 410 = .ok (.bipush 16, 2) := by decide +kernel
theorem dX12_init_412 : decode cX12_init 412 = .ok (.newarray .int, 2) := by decide +kernel
theorem dX12_init_414 : decode cX12_init 414 = .ok (.putfield 163, 3) := by decide +kernel
theorem dX12_init_417 : decode cX12_init 417 = .ok (.aload_n 0, 1) := by decide +kernel
theorem dX12_init_418 : decode cX12_init 418 = .ok (.bipush 16, 2) := by decide +kernel
theorem dX12_init_420 : decode cX12_init 420 = .ok (.newarray .int, 2) := by decide +kernel
theorem dX12_init_422 : decode cX12_init 422 = .ok (.putfield 166, 3) := by decide +kernel
theorem dX12_init_425 : decode cX12_init 425 = .ok (.aload_n 0, 1) := by decide +kernel
theorem dX12_init_426 : decode cX12_init 426 = .ok (.bipush 16, 2) := by decide +kernel
theorem dX12_init_428 : decode cX12_init 428 = .ok (.newarray .int, 2) := by decide +kernel
theorem dX12_init_430 : decode cX12_init 430 = .ok (.putfield 169, 3) := by decide +kernel
theorem dX12_init_433 : decode cX12_init 433 = .ok (.aload_n 0, 1) := by decide +kernel
theorem dX12_init_434 : decode cX12_init 434 = .ok (.bipush 16, 2) := by decide +kernel
theorem dX12_init_436 : decode cX12_init 436 = .ok (.newarray .int, 2) := by decide +kernel
theorem dX12_init_438 : decode cX12_init 438 = .ok (.putfield 172, 3) := by decide +kernel
theorem dX12_init_441 : decode cX12_init 441 = .ok (.aload_n 0, 1) := by decide +kernel
theorem dX12_init_442 : decode cX12_init 442 = .ok (.bipush 16, 2) := by decide +kernel
theorem dX12_init_444 : decode cX12_init 444 = .ok (.newarray .boolean, 2) := by decide +kernel
theorem dX12_init_446 : decode cX12_init 446 = .ok (.putfield 175, 3) := by decide +kernel
theorem dX12_init_449 : decode cX12_init 449 = .ok (.aload_n 0, 1) := by decide +kernel
theorem dX12_init_450 : decode cX12_init 450 = .ok (.bipush 16, 2) := by decide +kernel
theorem dX12_init_452 : decode cX12_init 452 = .ok (.newarray .int, 2) := by decide +kernel
theorem dX12_init_454 : decode cX12_init 454 = .ok (.putfield 178, 3) := by decide +kernel
theorem dX12_init_457 : decode cX12_init 457 = .ok (.aload_n 0, 1) := by decide +kernel
theorem dX12_init_458 : decode cX12_init 458 = .ok (.sipush 256, 3) := by decide +kernel
theorem dX12_init_461 : decode cX12_init 461 = .ok (.newarray .int, 2) := by decide +kernel
theorem dX12_init_463 : decode cX12_init 463 = .ok (.putfield 181, 3) := by decide +kernel
theorem dX12_init_466 : decode cX12_init 466 = .ok (.aload_n 0, 1) := by decide +kernel
theorem dX12_init_467 : decode cX12_init 467 = .ok (.iload_n 1, 1) := by decide +kernel
theorem dX12_init_468 : decode cX12_init 468 = .ok (.iconst 3, 1) := by decide +kernel
theorem dX12_init_469 : decode cX12_init 469 = .ok (.if_icmp .ge 7, 3) := by decide +kernel
theorem dX12_init_472 : decode cX12_init 472 = .ok (.iconst 3, 1) := by decide +kernel
theorem dX12_init_473 : decode cX12_init 473 = .ok (.goto 15, 3) := by decide +kernel
theorem dX12_init_476 : decode cX12_init 476 = .ok (.iload_n 1, 1) := by decide +kernel
theorem dX12_init_477 : decode cX12_init 477 = .ok (.bipush 9, 2) := by decide +kernel
theorem dX12_init_479 : decode cX12_init 479 = .ok (.if_icmp .le 8, 3) := by decide +kernel
theorem dX12_init_482 : decode cX12_init 482 = .ok (.bipush 9, 2) := by decide +kernel
theorem dX12_init_484 : decode cX12_init 484 = .ok (.goto 4, 3) := by decide +kernel
theorem dX12_init_487 : decode cX12_init 487 = .ok (.iload_n 1, 1) := by decide +kernel
theorem dX12_init_488 : decode cX12_init 488 = .ok (.putfield 184, 3) := by decide +kernel
theorem dX12_init_491 : decode cX12_init 491 = .ok (.aload_n 0, 1) := by decide +kernel
theorem dX12_init_492 : decode cX12_init 492 = .ok (.iload 4, 2) := by decide +kernel
theorem dX12_init_494 : decode cX12_init 494 = .ok (.iconst 2, 1) := by decide +kernel
theorem dX12_init_495 : decode cX12_init 495 = .ok (.if_icmp .ge 7, 3) := by decide +kernel
theorem dX12_init_498 : decode cX12_init 498 = .ok (.iconst 2, 1) := by decide +kernel
theorem dX12_init_499 : decode cX12_init 499 = .ok (.goto 17, 3) := by decide +kernel
theorem dX12_init_502 : decode cX12_init 502 = .ok (.iload 4, 2) := by decide +kernel
theorem dX12_init_504 : decode cX12_init 504 = .ok (.bipush 40, 2) := by decide +kernel
theorem dX12_init_506 : decode cX12_init 506 = .ok (.if_icmp .le 8, 3) := by decide +kernel
theorem dX12_init_509 : decode cX12_init 509 = .ok (.bipush 40, 2) := by decide +kernel
theorem dX12_init_511 : decode cX12_init 511 = .ok (.goto 5, 3) := by decide +kernel
theorem dX12_init_514 : decode cX12_init 514 = .ok (.iload 4, 2) := by decide +kernel
theorem dX12_init_516 : decode cX12_init 516 = .ok (.putfield 187, 3) := by decide +kernel
theorem dX12_init_519 : decode cX12_init 519 = .ok (.aload_n 0, 1) := by decide +kernel
theorem dX12_init_520 : decode cX12_init 520 = .ok (.iload_n 2, 1) := by decide +kernel
theorem dX12_init_521 : decode cX12_init 521 = .ok (.iconst 1, 1) := by decide +kernel
theorem dX12_init_522 : decode cX12_init 522 = .ok (.if_icmp .ge 7, 3) := by decide +kernel
theorem dX12_init_525 : decode cX12_init 525 = .ok (.iconst 1, 1) := by decide +kernel
theorem dX12_init_526 : decode cX12_init 526 = .ok (.goto 15, 3) := by decide +kernel
theorem dX12_init_529 : decode cX12_init 529 = .ok (.iload_n 2, 1) := by decide +kernel
theorem dX12_init_530 : decode cX12_init 530 = .ok (.bipush 16, 2) := by decide +kernel
theorem dX12_init_532 : decode cX12_init 532 = .ok (.if_icmp .le 8, 3) := by decide +kernel
theorem dX12_init_535 : decode cX12_init 535 = .ok (.bipush 16, 2) := by decide +kernel
theorem dX12_init_537 : decode cX12_init 537 = .ok (.goto 4, 3) := by decide +kernel
theorem dX12_init_540 : decode cX12_init 540 = .ok (.iload_n 2, 1) := by decide +kernel
theorem dX12_init_541 : decode cX12_init 541 = .ok (.putfield 190, 3) := by decide +kernel
theorem dX12_init_544 : decode cX12_init 544 = .ok (.aload_n 0, 1) := by decide +kernel
theorem dX12_init_545 : decode cX12_init 545 = .ok (.iload_n 3, 1) := by decide +kernel
theorem dX12_init_546 : decode cX12_init 546 = .ok (.iconst 1, 1) := by decide +kernel
theorem dX12_init_547 : decode cX12_init 547 = .ok (.if_icmp .ge 7, 3) := by decide +kernel
theorem dX12_init_550 : decode cX12_init 550 = .ok (.iconst 1, 1) := by decide +kernel
theorem dX12_init_551 : decode cX12_init 551 = .ok (.goto 15, 3) := by decide +kernel
theorem dX12_init_554 : decode cX12_init 554 = .ok (.iload_n 3, 1) := by decide +kernel
theorem dX12_init_555 : decode cX12_init 555 = .ok (.bipush 32, 2) := by decide +kernel
theorem dX12_init_557 : decode cX12_init 557 = .ok (.if_icmp .le 8, 3) := by decide +kernel
theorem dX12_init_560 : decode cX12_init 560 = .ok (.bipush 32, 2) := by decide +kernel
theorem dX12_init_562 : decode cX12_init 562 = .ok (.goto 4, 3) := by decide +kernel
theorem dX12_init_565 : decode cX12_init 565 = .ok (.iload_n 3, 1) := by decide +kernel
theorem dX12_init_566 : decode cX12_init 566 = .ok (.putfield 193, 3) := by decide +kernel
theorem dX12_init_569 : decode cX12_init 569 = .ok (.iconst 0, 1) := by decide +kernel
theorem dX12_init_570 : decode cX12_init 570 = .ok (.istore 5, 2) := by decide +kernel
theorem dX12_init_572 : decode cX12_init 572 = .ok (.iload 5, 2) := by decide +kernel
theorem dX12_init_574 : decode cX12_init 574 = .ok (.aload_n 0, 1) := by decide +kernel
theorem dX12_init_575 : decode cX12_init 575 = .ok (.getfield 184, 3) := by decide +kernel
theorem dX12_init_578 : decode cX12_init 578 = .ok (.if_icmp .ge 56, 3) := by decide +kernel
theorem dX12_init_581 : decode cX12_init 581 = .ok (.aload_n 0, 1) := by decide +kernel
theorem dX12_init_582 : decode cX12_init 582 = .ok (.getfield 33, 3) := by decide +kernel
theorem dX12_init_585 : decode cX12_init 585 = .ok (.iload 5, 2) := by decide +kernel
theorem dX12_init_587 : decode cX12_init 587 = .ok (.iconst 1, 1) := by decide +kernel
theorem dX12_init_588 : decode cX12_init 588 = .ok (.bastore, 1) := by decide +kernel
theorem dX12_init_589 : decode cX12_init 589 = .ok (.aload_n 0, 1) := by decide +kernel
theorem dX12_init_590 : decode cX12_init 590 = .ok (.getfield 122, 3) := by decide +kernel
theorem dX12_init_593 : decode cX12_init 593 = .ok (.iload 5, 2) := by decide +kernel
theorem dX12_init_595 : decode cX12_init 595 = .ok (.iconst (-1), 1) := by decide +kernel
theorem dX12_init_596 : decode cX12_init 596 = .ok (.iastore, 1) := by decide +kernel
theorem dX12_init_597 : decode cX12_init 597 = .ok (.aload_n 0, 1) := by decide +kernel
theorem dX12_init_598 : decode cX12_init 598 = .ok (.getfield 113, 3) := by decide +kernel
theorem dX12_init_601 : decode cX12_init 601 = .ok (.iload 5, 2) := by decide +kernel
theorem dX12_init_603 : decode cX12_init 603 = .ok (.iconst 1, 1) := by decide +kernel
theorem dX12_init_604 : decode cX12_init 604 = .ok (.iastore, 1) := by decide +kernel
theorem dX12_init_605 : decode cX12_init 605 = .ok (.aload_n 0, 1) := by decide +kernel
theorem dX12_init_606 : decode cX12_init 606 = .ok (.iconst 0, 1) := by decide +kernel
theorem dX12_init_607 : decode cX12_init 607 = .ok (.iconst 1, 1) := by decide +kernel
theorem dX12_init_608 : decode cX12_init 608 = .ok (.invokevirtual 196, 3) := by decide +kernel
theorem dX12_init_611 : decode cX12_init 611 = .ok (.aload_n 0, 1) := by decide +kernel
theorem dX12_init_612 : decode cX12_init 612 = .ok (.iload 5, 2) := by decide +kernel
theorem dX12_init_614 : decode cX12_init 614 = .ok (.iconst 1, 1) := by decide +kernel
theorem dX12_init_615 : decode cX12_init 615 = .ok (.iconst 0, 1) := by decide +kernel
theorem dX12_init_616 : decode cX12_init 616 = .ok (.invokevirtual 200, 3) := by decide +kernel
theorem dX12_init_619 : decode cX12_init 619 = .ok (.pop, 1) := by decide +kernel
theorem dX12_init_620 : decode cX12_init 620 = .ok (.aload_n 0, 1) := by decide +kernel
theorem dX12_init_621 : decode cX12_init 621 = .ok (.getfield 119, 3) := by decide +kernel
theorem dX12_init_624 : decode cX12_init 624 = .ok (.iload 5, 2) := by decide +kernel
theorem dX12_init_626 : decode cX12_init 626 = .ok (.iconst 0, 1) := by decide +kernel
theorem dX12_init_627 : decode cX12_init 627 = .ok (.iastore, 1) := by decide +kernel
theorem dX12_init_628 : decode cX12_init 628 = .ok (.iinc 5 1, 3) := by decide +kernel
theorem dX12_init_631 : decode cX12_init 631 = .ok (.goto (-59), 3) := by decide +kernel
theorem dX12_init_634 : decode cX12_init 634 = .ok (.iconst 0, 1) := by decide +kernel
theorem dX12_init_635 : decode cX12_init 635 = .ok (.istore 5, 2) := by decide +kernel
theorem dX12_init_637 : decode cX12_init 637 = .ok (.iload 5, 2) := by decide +kernel
theorem dX12_init_639 : decode cX12_init 639 = .ok (.bipush 16, 2) := by decide +kernel
theorem dX12_init_641 : decode cX12_init 641 = .ok (.if_icmp .ge 17, 3) := by decide +kernel
theorem dX12_init_644 : decode cX12_init 644 = .ok (.aload_n 0, 1) := by decide +kernel
theorem dX12_init_645 : decode cX12_init 645 = .ok (.getfield 166, 3) := by decide +kernel
theorem dX12_init_648 : decode cX12_init 648 = .ok (.iload 5, 2) := by decide +kernel
theorem dX12_init_650 : decode cX12_init 650 = .ok (.iconst (-1), 1) := by decide +kernel
theorem dX12_init_651 : decode cX12_init 651 = .ok (.iastore, 1) := by decide +kernel
theorem dX12_init_652 : decode cX12_init 652 = .ok (.iinc 5 1, 3) := by decide +kernel
theorem dX12_init_655 : decode cX12_init 655 = .ok (.goto (-18), 3) := by decide +kernel
theorem dX12_init_658 : decode cX12_init 658 = .ok (.return_, 1) := by decide +kernel
theorem dX12_thrown_0 : decode cX12_thrown 0 = .ok (.aload_n 0, 1) := by decide +kernel
theorem dX12_thrown_1 : decode cX12_thrown 1 = .ok (.getfield 204, 3) := by decide +kernel
theorem dX12_thrown_4 : decode cX12_thrown 4 = .ok (.ireturn, 1) := by decide +kernel
theorem dX12_isReplica_0 : decode cX12_isReplica 0 = .ok (.iload_n 1, 1) := by decide +kernel
theorem dX12_isReplica_1 : decode cX12_isReplica 1 = .ok (.ifCond .lt 15, 3) := by decide +kernel
theorem dX12_isReplica_4 : decode cX12_isReplica 4 = .ok (.iload_n 1, 1) := by decide +kernel
theorem dX12_isReplica_5 : decode cX12_isReplica 5 = .ok (.aload_n 0, 1) := by decide +kernel
theorem dX12_isReplica_6 : decode cX12_isReplica 6 = .ok (.getfield 184, 3) := by decide +kernel
theorem dX12_isReplica_9 : decode cX12_isReplica 9 = .ok (.if_icmp .ge 7, 3) := by decide +kernel
theorem dX12_isReplica_12 : decode cX12_isReplica 12 = .ok (.iconst 1, 1) := by decide +kernel
theorem dX12_isReplica_13 : decode cX12_isReplica 13 = .ok (.goto 4, 3) := by decide +kernel
theorem dX12_isReplica_16 : decode cX12_isReplica 16 = .ok (.iconst 0, 1) := by decide +kernel
theorem dX12_isReplica_17 : decode cX12_isReplica 17 = .ok (.ireturn, 1) := by decide +kernel
theorem dX12_isUp_0 : decode cX12_isUp 0 = .ok (.aload_n 0, 1) := by decide +kernel
theorem dX12_isUp_1 : decode cX12_isUp 1 = .ok (.iload_n 1, 1) := by decide +kernel
theorem dX12_isUp_2 : decode cX12_isUp 2 = .ok (.invokevirtual 207, 3) := by decide +kernel
theorem dX12_isUp_5 : decode cX12_isUp 5 = .ok (.ifCond .eq 28, 3) := by decide +kernel
theorem dX12_isUp_8 : decode cX12_isUp 8 = .ok (.aload_n 0, 1) := by decide +kernel
theorem dX12_isUp_9 : decode cX12_isUp 9 = .ok (.getfield 33, 3) := by decide +kernel
theorem dX12_isUp_12 : decode cX12_isUp 12 = .ok (.aload_n 0, 1) := by decide +kernel
theorem dX12_isUp_13 : decode cX12_isUp 13 = .ok (.iload_n 1, 1) := by decide +kernel
theorem dX12_isUp_14 : decode cX12_isUp 14 = .ok (.invokevirtual 207, 3) := by decide +kernel
theorem dX12_isUp_17 : decode cX12_isUp 17 = .ok (.ifCond .eq 7, 3) := by decide +kernel
theorem dX12_isUp_20 : decode cX12_isUp 20 = .ok (.iload_n 1, 1) := by decide +kernel
theorem dX12_isUp_21 : decode cX12_isUp 21 = .ok (.goto 4, 3) := by decide +kernel
theorem dX12_isUp_24 : decode cX12_isUp 24 = .ok (.iconst 0, 1) := by decide +kernel
theorem dX12_isUp_25 : decode cX12_isUp 25 = .ok (.baload, 1) := by decide +kernel
theorem dX12_isUp_26 : decode cX12_isUp 26 = .ok (.ifCond .eq 7, 3) := by decide +kernel
theorem dX12_isUp_29 : decode cX12_isUp 29 = .ok (.iconst 1, 1) := by decide +kernel
theorem dX12_isUp_30 : decode cX12_isUp 30 = .ok (.goto 4, 3) := by decide +kernel
theorem dX12_isUp_33 : decode cX12_isUp 33 = .ok (.iconst 0, 1) := by decide +kernel
theorem dX12_isUp_34 : decode cX12_isUp 34 = .ok (.ireturn, 1) := by decide +kernel
theorem dX12_isSession_0 : decode cX12_isSession 0 = .ok (.iload_n 0, 1) := by decide +kernel
theorem dX12_isSession_1 : decode cX12_isSession 1 = .ok (.ifCond .lt 13, 3) := by decide +kernel
theorem dX12_isSession_4 : decode cX12_isSession 4 = .ok (.iload_n 0, 1) := by decide +kernel
theorem dX12_isSession_5 : decode cX12_isSession 5 = .ok (.bipush 16, 2) := by decide +kernel
theorem dX12_isSession_7 : decode cX12_isSession 7 = .ok (.if_icmp .ge 7, 3) := by decide +kernel
theorem dX12_isSession_10 : decode cX12_isSession 10 = .ok (.iconst 1, 1) := by decide +kernel
theorem dX12_isSession_11 : decode cX12_isSession 11 = .ok (.goto 4, 3) := by decide +kernel
theorem dX12_isSession_14 : decode cX12_isSession 14 = .ok (.iconst 0, 1) := by decide +kernel
theorem dX12_isSession_15 : decode cX12_isSession 15 = .ok (.ireturn, 1) := by decide +kernel
theorem dX12_isKey_0 : decode cX12_isKey 0 = .ok (.iload_n 0, 1) := by decide +kernel
theorem dX12_isKey_1 : decode cX12_isKey 1 = .ok (.ifCond .lt 13, 3) := by decide +kernel
theorem dX12_isKey_4 : decode cX12_isKey 4 = .ok (.iload_n 0, 1) := by decide +kernel
theorem dX12_isKey_5 : decode cX12_isKey 5 = .ok (.bipush 16, 2) := by decide +kernel
theorem dX12_isKey_7 : decode cX12_isKey 7 = .ok (.if_icmp .ge 7, 3) := by decide +kernel
theorem dX12_isKey_10 : decode cX12_isKey 10 = .ok (.iconst 1, 1) := by decide +kernel
theorem dX12_isKey_11 : decode cX12_isKey 11 = .ok (.goto 4, 3) := by decide +kernel
theorem dX12_isKey_14 : decode cX12_isKey 14 = .ok (.iconst 0, 1) := by decide +kernel
theorem dX12_isKey_15 : decode cX12_isKey 15 = .ok (.ireturn, 1) := by decide +kernel
theorem dX12_at_0 : decode cX12_at 0 = .ok (.bipush 40, 2) := by decide +kernel
theorem dX12_at_2 : decode cX12_at 2 = .ok (.iload_n 0, 1) := by decide +kernel
theorem dX12_at_3 : decode cX12_at 3 = .ok (.imul, 1) := by decide +kernel
theorem dX12_at_4 : decode cX12_at 4 = .ok (.iload_n 1, 1) := by decide +kernel
theorem dX12_at_5 : decode cX12_at 5 = .ok (.bipush 40, 2) := by decide +kernel
theorem dX12_at_7 : decode cX12_at 7 = .ok (.irem, 1) := by decide +kernel
theorem dX12_at_8 : decode cX12_at 8 = .ok (.iadd, 1) := by decide +kernel
theorem dX12_at_9 : decode cX12_at 9 = .ok (.ireturn, 1) := by decide +kernel
theorem dX12_verdictOf_0 : decode cX12_verdictOf 0 = .ok (.aload_n 0, 1) := by decide +kernel
theorem dX12_verdictOf_1 : decode cX12_verdictOf 1 = .ok (.getfield 20, 3) := by decide +kernel
theorem dX12_verdictOf_4 : decode cX12_verdictOf 4 = .ok (.iload_n 2, 1) := by decide +kernel
theorem dX12_verdictOf_5 : decode cX12_verdictOf 5 = .ok (.iaload, 1) := by decide +kernel
theorem dX12_verdictOf_6 : decode cX12_verdictOf 6 = .ok (.aload_n 0, 1) := by decide +kernel
theorem dX12_verdictOf_7 : decode cX12_verdictOf 7 = .ok (.getfield 37, 3) := by decide +kernel
theorem dX12_verdictOf_10 : decode cX12_verdictOf 10 = .ok (.iload_n 1, 1) := by decide +kernel
theorem dX12_verdictOf_11 : decode cX12_verdictOf 11 = .ok (.iaload, 1) := by decide +kernel
theorem dX12_verdictOf_12 : decode cX12_verdictOf 12 = .ok (.aload_n 0, 1) := by decide +kernel
theorem dX12_verdictOf_13 : decode cX12_verdictOf 13 = .ok (.getfield 190, 3) := by decide +kernel
theorem dX12_verdictOf_16 : decode cX12_verdictOf 16 = .ok (.isub, 1) := by decide +kernel
theorem dX12_verdictOf_17 : decode cX12_verdictOf 17 = .ok (.if_icmp .ge 7, 3) := by decide +kernel
theorem dX12_verdictOf_20 : decode cX12_verdictOf 20 = .ok (.iconst 1, 1) := by decide +kernel
theorem dX12_verdictOf_21 : decode cX12_verdictOf 21 = .ok (.goto 4, 3) := by decide +kernel
theorem dX12_verdictOf_24 : decode cX12_verdictOf 24 = .ok (.iconst 0, 1) := by decide +kernel
theorem dX12_verdictOf_25 : decode cX12_verdictOf 25 = .ok (.istore_n 3, 1) := by decide +kernel
theorem dX12_verdictOf_26 : decode cX12_verdictOf 26 = .ok (.aload_n 0, 1) := by decide +kernel
theorem dX12_verdictOf_27 : decode cX12_verdictOf 27 = .ok (.getfield 20, 3) := by decide +kernel
theorem dX12_verdictOf_30 : decode cX12_verdictOf 30 = .ok (.iload_n 2, 1) := by decide +kernel
theorem dX12_verdictOf_31 : decode cX12_verdictOf 31 = .ok (.iaload, 1) := by decide +kernel
theorem dX12_verdictOf_32 : decode cX12_verdictOf 32 = .ok (.iconst 1, 1) := by decide +kernel
theorem dX12_verdictOf_33 : decode cX12_verdictOf 33 = .ok (.iadd, 1) := by decide +kernel
theorem dX12_verdictOf_34 : decode cX12_verdictOf 34 = .ok (.istore 4, 2) := by decide +kernel
theorem dX12_verdictOf_36 : decode cX12_verdictOf 36 = .ok (.iload 4, 2) := by decide +kernel
theorem dX12_verdictOf_38 : decode cX12_verdictOf 38 = .ok (.aload_n 0, 1) := by decide +kernel
theorem dX12_verdictOf_39 : decode cX12_verdictOf 39 = .ok (.getfield 37, 3) := by decide +kernel
theorem dX12_verdictOf_42 : decode cX12_verdictOf 42 = .ok (.iload_n 1, 1) := by decide +kernel
theorem dX12_verdictOf_43 : decode cX12_verdictOf 43 = .ok (.iaload, 1) := by decide +kernel
theorem dX12_verdictOf_44 : decode cX12_verdictOf 44 = .ok (.if_icmp .gt 40, 3) := by decide +kernel
theorem dX12_verdictOf_47 : decode cX12_verdictOf 47 = .ok (.iload_n 3, 1) := by decide +kernel
theorem dX12_verdictOf_48 : decode cX12_verdictOf 48 = .ok (.ifCond .ne 36, 3) := by decide +kernel
theorem dX12_verdictOf_51 : decode cX12_verdictOf 51 = .ok (.aload_n 0, 1) := by decide +kernel
theorem dX12_verdictOf_52 : decode cX12_verdictOf 52 = .ok (.getfield 61, 3) := by decide +kernel
theorem dX12_verdictOf_55 : decode cX12_verdictOf 55 = .ok (.iload_n 1, 1) := by decide +kernel
theorem dX12_verdictOf_56 : decode cX12_verdictOf 56 = .ok (.iload 4, 2) := by decide +kernel
theorem dX12_verdictOf_58 : decode cX12_verdictOf 58 = .ok (.invokestatic 211, 3) := by decide +kernel
theorem dX12_verdictOf_61 : decode cX12_verdictOf 61 = .ok (.iaload, 1) := by decide +kernel
theorem dX12_verdictOf_62 : decode cX12_verdictOf 62 = .ok (.aload_n 0, 1) := by decide +kernel
theorem dX12_verdictOf_63 : decode cX12_verdictOf 63 = .ok (.getfield 23, 3) := by decide +kernel
theorem dX12_verdictOf_66 : decode cX12_verdictOf 66 = .ok (.iload_n 2, 1) := by decide +kernel
theorem dX12_verdictOf_67 : decode cX12_verdictOf 67 = .ok (.iaload, 1) := by decide +kernel
theorem dX12_verdictOf_68 : decode cX12_verdictOf 68 = .ok (.iand, 1) := by decide +kernel
theorem dX12_verdictOf_69 : decode cX12_verdictOf 69 = .ok (.ifCond .eq 7, 3) := by decide +kernel
theorem dX12_verdictOf_72 : decode cX12_verdictOf 72 = .ok (.iconst 1, 1) := by decide +kernel
theorem dX12_verdictOf_73 : decode cX12_verdictOf 73 = .ok (.goto 4, 3) := by decide +kernel
theorem dX12_verdictOf_76 : decode cX12_verdictOf 76 = .ok (.iconst 0, 1) := by decide +kernel
theorem dX12_verdictOf_77 : decode cX12_verdictOf 77 = .ok (.istore_n 3, 1) := by decide +kernel
theorem dX12_verdictOf_78 : decode cX12_verdictOf 78 = .ok (.iinc 4 1, 3) := by decide +kernel
theorem dX12_verdictOf_81 : decode cX12_verdictOf 81 = .ok (.goto (-45), 3) := by decide +kernel
theorem dX12_verdictOf_84 : decode cX12_verdictOf 84 = .ok (.iload_n 3, 1) := by decide +kernel
theorem dX12_verdictOf_85 : decode cX12_verdictOf 85 = .ok (.ifCond .eq 7, 3) := by decide +kernel
theorem dX12_verdictOf_88 : decode cX12_verdictOf 88 = .ok (.iconst 2, 1) := by decide +kernel
theorem dX12_verdictOf_89 : decode cX12_verdictOf 89 = .ok (.goto 4, 3) := by decide +kernel
theorem dX12_verdictOf_92 : decode cX12_verdictOf 92 = .ok (.iconst 1, 1) := by decide +kernel
theorem dX12_verdictOf_93 : decode cX12_verdictOf 93 = .ok (.ireturn, 1) := by decide +kernel
theorem dX12_applyTo_0 : decode cX12_applyTo 0 = .ok (.aload_n 0, 1) := by decide +kernel
theorem dX12_applyTo_1 : decode cX12_applyTo 1 = .ok (.getfield 13, 3) := by decide +kernel
theorem dX12_applyTo_4 : decode cX12_applyTo 4 = .ok (.iload_n 2, 1) := by decide +kernel
theorem dX12_applyTo_5 : decode cX12_applyTo 5 = .ok (.iaload, 1) := by decide +kernel
theorem dX12_applyTo_6 : decode cX12_applyTo 6 = .ok (.istore_n 3, 1) := by decide +kernel
theorem dX12_applyTo_7 : decode cX12_applyTo 7 = .ok (.aload_n 0, 1) := by decide +kernel
theorem dX12_applyTo_8 : decode cX12_applyTo 8 = .ok (.getfield 17, 3) := by decide +kernel
theorem dX12_applyTo_11 : decode cX12_applyTo 11 = .ok (.iload_n 2, 1) := by decide +kernel
theorem dX12_applyTo_12 : decode cX12_applyTo 12 = .ok (.iaload, 1) := by decide +kernel
theorem dX12_applyTo_13 : decode cX12_applyTo 13 = .ok (.aload_n 0, 1) := by decide +kernel
theorem dX12_applyTo_14 : decode cX12_applyTo 14 = .ok (.getfield 67, 3) := by decide +kernel
theorem dX12_applyTo_17 : decode cX12_applyTo 17 = .ok (.bipush 16, 2) := by decide +kernel
theorem dX12_applyTo_19 : decode cX12_applyTo 19 = .ok (.iload_n 1, 1) := by decide +kernel
theorem dX12_applyTo_20 : decode cX12_applyTo 20 = .ok (.imul, 1) := by decide +kernel
theorem dX12_applyTo_21 : decode cX12_applyTo 21 = .ok (.iload_n 3, 1) := by decide +kernel
theorem dX12_applyTo_22 : decode cX12_applyTo 22 = .ok (.iadd, 1) := by decide +kernel
theorem dX12_applyTo_23 : decode cX12_applyTo 23 = .ok (.iaload, 1) := by decide +kernel
theorem dX12_applyTo_24 : decode cX12_applyTo 24 = .ok (.if_icmp .le 7, 3) := by decide +kernel
theorem dX12_applyTo_27 : decode cX12_applyTo 27 = .ok (.iconst 1, 1) := by decide +kernel
theorem dX12_applyTo_28 : decode cX12_applyTo 28 = .ok (.goto 4, 3) := by decide +kernel
theorem dX12_applyTo_31 : decode cX12_applyTo 31 = .ok (.iconst 0, 1) := by decide +kernel
theorem dX12_applyTo_32 : decode cX12_applyTo 32 = .ok (.istore 4, 2) := by decide +kernel
theorem dX12_applyTo_34 : decode cX12_applyTo 34 = .ok (.iload 4, 2) := by decide +kernel
theorem dX12_applyTo_36 : decode cX12_applyTo 36 = .ok (.ifCond .eq 12, 3) := by decide +kernel
theorem dX12_applyTo_39 : decode cX12_applyTo 39 = .ok (.aload_n 0, 1) := by decide +kernel
theorem dX12_applyTo_40 : decode cX12_applyTo 40 = .ok (.iload_n 1, 1) := by decide +kernel
theorem dX12_applyTo_41 : decode cX12_applyTo 41 = .ok (.iload_n 2, 1) := by decide +kernel
theorem dX12_applyTo_42 : decode cX12_applyTo 42 = .ok (.invokevirtual 215, 3) := by decide +kernel
theorem dX12_applyTo_45 : decode cX12_applyTo 45 = .ok (.goto 4, 3) := by decide +kernel
theorem dX12_applyTo_48 : decode cX12_applyTo 48 = .ok (.iconst 0, 1) := by decide +kernel
theorem dX12_applyTo_49 : decode cX12_applyTo 49 = .ok (.istore 5, 2) := by decide +kernel
theorem dX12_applyTo_51 : decode cX12_applyTo 51 = .ok (.iload_n 1, 1) := by decide +kernel
theorem dX12_applyTo_52 : decode cX12_applyTo 52 = .ok (.aload_n 0, 1) := by decide +kernel
theorem dX12_applyTo_53 : decode cX12_applyTo 53 = .ok (.getfield 37, 3) := by decide +kernel
theorem dX12_applyTo_56 : decode cX12_applyTo 56 = .ok (.iload_n 1, 1) := by decide +kernel
theorem dX12_applyTo_57 : decode cX12_applyTo 57 = .ok (.iaload, 1) := by decide +kernel
theorem dX12_applyTo_58 : decode cX12_applyTo 58 = .ok (.invokestatic 211, 3) := by decide +kernel
theorem dX12_applyTo_61 : decode cX12_applyTo 61 = .ok (.istore 6, 2) := by decide +kernel
theorem dX12_applyTo_63 : decode cX12_applyTo 63 = .ok (.aload_n 0, 1) := by decide +kernel
theorem dX12_applyTo_64 : decode cX12_applyTo 64 = .ok (.getfield 37, 3) := by decide +kernel
theorem dX12_applyTo_67 : decode cX12_applyTo 67 = .ok (.iload_n 1, 1) := by decide +kernel
theorem dX12_applyTo_68 : decode cX12_applyTo 68 = .ok (.dup2, 1) := by decide +kernel
theorem dX12_applyTo_69 : decode cX12_applyTo 69 = .ok (.iaload, 1) := by decide +kernel
theorem dX12_applyTo_70 : decode cX12_applyTo 70 = .ok (.iconst 1, 1) := by decide +kernel
theorem dX12_applyTo_71 : decode cX12_applyTo 71 = .ok (.iadd, 1) := by decide +kernel
theorem dX12_applyTo_72 : decode cX12_applyTo 72 = .ok (.iastore, 1) := by decide +kernel
theorem dX12_applyTo_73 : decode cX12_applyTo 73 = .ok (.iload_n 1, 1) := by decide +kernel
theorem dX12_applyTo_74 : decode cX12_applyTo 74 = .ok (.aload_n 0, 1) := by decide +kernel
theorem dX12_applyTo_75 : decode cX12_applyTo 75 = .ok (.getfield 37, 3) := by decide +kernel
theorem dX12_applyTo_78 : decode cX12_applyTo 78 = .ok (.iload_n 1, 1) := by decide +kernel
theorem dX12_applyTo_79 : decode cX12_applyTo 79 = .ok (.iaload, 1) := by decide +kernel
theorem dX12_applyTo_80 : decode cX12_applyTo 80 = .ok (.invokestatic 211, 3) := by decide +kernel
theorem dX12_applyTo_83 : decode cX12_applyTo 83 = .ok (.istore 7, 2) := by decide +kernel
theorem dX12_applyTo_85 : decode cX12_applyTo 85 = .ok (.aload_n 0, 1) := by decide +kernel
theorem dX12_applyTo_86 : decode cX12_applyTo 86 = .ok (.getfield 61, 3) := by decide +kernel
theorem dX12_applyTo_89 : decode cX12_applyTo 89 = .ok (.iload 7, 2) := by decide +kernel
theorem dX12_applyTo_91 : decode cX12_applyTo 91 = .ok (.iload 5, 2) := by decide +kernel
theorem dX12_applyTo_93 : decode cX12_applyTo 93 = .ok (.iconst 1, 1) := by decide +kernel
theorem dX12_applyTo_94 : decode cX12_applyTo 94 = .ok (.if_icmp .ne 12, 3) := by decide +kernel
theorem dX12_applyTo_97 : decode cX12_applyTo 97 = .ok (.aload_n 0, 1) := by decide +kernel
theorem dX12_applyTo_98 : decode cX12_applyTo 98 = .ok (.getfield 26, 3) := by decide +kernel
theorem dX12_applyTo_101 : decode cX12_applyTo 101 = .ok (.iload_n 2, 1) := by decide +kernel
theorem dX12_applyTo_102 : decode cX12_applyTo 102 = .ok (.iaload, 1) := by decide +kernel
theorem dX12_applyTo_103 : decode cX12_applyTo 103 = .ok (.goto 4, 3) := by decide +kernel
theorem dX12_applyTo_106 : decode cX12_applyTo 106 = .ok (.iconst 0, 1) := by decide +kernel
theorem dX12_applyTo_107 : decode cX12_applyTo 107 = .ok (.iastore, 1) := by decide +kernel
theorem dX12_applyTo_108 : decode cX12_applyTo 108 = .ok (.iconst 0, 1) := by decide +kernel
theorem dX12_applyTo_109 : decode cX12_applyTo 109 = .ok (.istore 8, 2) := by decide +kernel
theorem dX12_applyTo_111 : decode cX12_applyTo 111 = .ok (.iload 8, 2) := by decide +kernel
theorem dX12_applyTo_113 : decode cX12_applyTo 113 = .ok (.bipush 16, 2) := by decide +kernel
theorem dX12_applyTo_115 : decode cX12_applyTo 115 = .ok (.if_icmp .ge 66, 3) := by decide +kernel
theorem dX12_applyTo_118 : decode cX12_applyTo 118 = .ok (.aload_n 0, 1) := by decide +kernel
theorem dX12_applyTo_119 : decode cX12_applyTo 119 = .ok (.getfield 58, 3) := by decide +kernel
theorem dX12_applyTo_122 : decode cX12_applyTo 122 = .ok (.bipush 16, 2) := by decide +kernel
theorem dX12_applyTo_124 : decode cX12_applyTo 124 = .ok (.iload 7, 2) := by decide +kernel
theorem dX12_applyTo_126 : decode cX12_applyTo 126 = .ok (.imul, 1) := by decide +kernel
theorem dX12_applyTo_127 : decode cX12_applyTo 127 = .ok (.iload 8, 2) := by decide +kernel
theorem dX12_applyTo_129 : decode cX12_applyTo 129 = .ok (.iadd, 1) := by decide +kernel
theorem dX12_applyTo_130 : decode cX12_applyTo 130 = .ok (.aload_n 0, 1) := by decide +kernel
theorem dX12_applyTo_131 : decode cX12_applyTo 131 = .ok (.getfield 61, 3) := by decide +kernel
theorem dX12_applyTo_134 : decode cX12_applyTo 134 = .ok (.iload 7, 2) := by decide +kernel
theorem dX12_applyTo_136 : decode cX12_applyTo 136 = .ok (.iaload, 1) := by decide +kernel
theorem dX12_applyTo_137 : decode cX12_applyTo 137 = .ok (.iload 8, 2) := by decide +kernel
theorem dX12_applyTo_139 : decode cX12_applyTo 139 = .ok (.ishr, 1) := by decide +kernel
theorem dX12_applyTo_140 : decode cX12_applyTo 140 = .ok (.iconst 1, 1) := by decide +kernel
theorem dX12_applyTo_141 : decode cX12_applyTo 141 = .ok (.iand, 1) := by decide +kernel
theorem dX12_applyTo_142 : decode cX12_applyTo 142 = .ok (.iconst 1, 1) := by decide +kernel
theorem dX12_applyTo_143 : decode cX12_applyTo 143 = .ok (.if_icmp .ne 18, 3) := by decide +kernel
theorem dX12_applyTo_146 : decode cX12_applyTo 146 = .ok (.aload_n 0, 1) := by decide +kernel
theorem dX12_applyTo_147 : decode cX12_applyTo 147 = .ok (.getfield 30, 3) := by decide +kernel
theorem dX12_applyTo_150 : decode cX12_applyTo 150 = .ok (.bipush 16, 2) := by decide +kernel
theorem dX12_applyTo_152 : decode cX12_applyTo 152 = .ok (.iload_n 2, 1) := by decide +kernel
theorem dX12_applyTo_153 : decode cX12_applyTo 153 = .ok (.imul, 1) := by decide +kernel
theorem dX12_applyTo_154 : decode cX12_applyTo 154 = .ok (.iload 8, 2) := by decide +kernel
theorem dX12_applyTo_156 : decode cX12_applyTo 156 = .ok (.iadd, 1) := by decide +kernel
theorem dX12_applyTo_157 : decode cX12_applyTo 157 = .ok (.iaload, 1) := by decide +kernel
theorem dX12_applyTo_158 : decode cX12_applyTo 158 = .ok (.goto 16, 3) := by decide +kernel
theorem dX12_applyTo_161 : decode cX12_applyTo 161 = .ok (.aload_n 0, 1) := by decide +kernel
theorem dX12_applyTo_162 : decode cX12_applyTo 162 = .ok (.getfield 58, 3) := by decide +kernel
theorem dX12_applyTo_165 : decode cX12_applyTo 165 = .ok (.bipush 16, 2) := by decide +kernel
theorem dX12_applyTo_167 : decode cX12_applyTo 167 = .ok (.iload 6, 2) := by decide +kernel
theorem dX12_applyTo_169 : decode cX12_applyTo 169 = .ok (.imul, 1) := by decide +kernel
theorem dX12_applyTo_170 : decode cX12_applyTo 170 = .ok (.iload 8, 2) := by decide +kernel
theorem dX12_applyTo_172 : decode cX12_applyTo 172 = .ok (.iadd, 1) := by decide +kernel
theorem dX12_applyTo_173 : decode cX12_applyTo 173 = .ok (.iaload, 1) := by decide +kernel
theorem dX12_applyTo_174 : decode cX12_applyTo 174 = .ok (.iastore, 1) := by decide +kernel
theorem dX12_applyTo_175 : decode cX12_applyTo 175 = .ok (.iinc 8 1, 3) := by decide +kernel
theorem dX12_applyTo_178 : decode cX12_applyTo 178 = .ok (.goto (-67), 3) := by decide +kernel
theorem dX12_applyTo_181 : decode cX12_applyTo 181 = .ok (.iload 4, 2) := by decide +kernel
theorem dX12_applyTo_183 : decode cX12_applyTo 183 = .ok (.ifCond .eq 33, 3) := by decide +kernel
theorem dX12_applyTo_186 : decode cX12_applyTo 186 = .ok (.aload_n 0, 1) := by decide +kernel
theorem dX12_applyTo_187 : decode cX12_applyTo 187 = .ok (.getfield 67, 3) := by decide +kernel
theorem dX12_applyTo_190 : decode cX12_applyTo 190 = .ok (.bipush 16, 2) := by decide +kernel
theorem dX12_applyTo_192 : decode cX12_applyTo 192 = .ok (.iload_n 1, 1) := by decide +kernel
theorem dX12_applyTo_193 : decode cX12_applyTo 193 = .ok (.imul, 1) := by decide +kernel
theorem dX12_applyTo_194 : decode cX12_applyTo 194 = .ok (.iload_n 3, 1) := by decide +kernel
theorem dX12_applyTo_195 : decode cX12_applyTo 195 = .ok (.iadd, 1) := by decide +kernel
theorem dX12_applyTo_196 : decode cX12_applyTo 196 = .ok (.aload_n 0, 1) := by decide +kernel
theorem dX12_applyTo_197 : decode cX12_applyTo 197 = .ok (.getfield 17, 3) := by decide +kernel
theorem dX12_applyTo_200 : decode cX12_applyTo 200 = .ok (.iload_n 2, 1) := by decide +kernel
theorem dX12_applyTo_201 : decode cX12_applyTo 201 = .ok (.iaload, 1) := by decide +kernel
theorem dX12_applyTo_202 : decode cX12_applyTo 202 = .ok (.iastore, 1) := by decide +kernel
theorem dX12_applyTo_203 : decode cX12_applyTo 203 = .ok (.aload_n 0, 1) := by decide +kernel
theorem dX12_applyTo_204 : decode cX12_applyTo 204 = .ok (.getfield 70, 3) := by decide +kernel
theorem dX12_applyTo_207 : decode cX12_applyTo 207 = .ok (.bipush 16, 2) := by decide +kernel
theorem dX12_applyTo_209 : decode cX12_applyTo 209 = .ok (.iload_n 1, 1) := by decide +kernel
theorem dX12_applyTo_210 : decode cX12_applyTo 210 = .ok (.imul, 1) := by decide +kernel
theorem dX12_applyTo_211 : decode cX12_applyTo 211 = .ok (.iload_n 3, 1) := by decide +kernel
theorem dX12_applyTo_212 : decode cX12_applyTo 212 = .ok (.iadd, 1) := by decide +kernel
theorem dX12_applyTo_213 : decode cX12_applyTo 213 = .ok (.iload 5, 2) := by decide +kernel
theorem dX12_applyTo_215 : decode cX12_applyTo 215 = .ok (.iastore, 1) := by decide +kernel
theorem dX12_applyTo_216 : decode cX12_applyTo 216 = .ok (.aload_n 0, 1) := by decide +kernel
theorem dX12_applyTo_217 : decode cX12_applyTo 217 = .ok (.getfield 64, 3) := by decide +kernel
theorem dX12_applyTo_220 : decode cX12_applyTo 220 = .ok (.iload 7, 2) := by decide +kernel
theorem dX12_applyTo_222 : decode cX12_applyTo 222 = .ok (.iload_n 2, 1) := by decide +kernel
theorem dX12_applyTo_223 : decode cX12_applyTo 223 = .ok (.iastore, 1) := by decide +kernel
theorem dX12_applyTo_224 : decode cX12_applyTo 224 = .ok (.aload_n 0, 1) := by decide +kernel
theorem dX12_applyTo_225 : decode cX12_applyTo 225 = .ok (.getfield 40, 3) := by decide +kernel
theorem dX12_applyTo_228 : decode cX12_applyTo 228 = .ok (.iload_n 1, 1) := by decide +kernel
theorem dX12_applyTo_229 : decode cX12_applyTo 229 = .ok (.iaload, 1) := by decide +kernel
theorem dX12_applyTo_230 : decode cX12_applyTo 230 = .ok (.aload_n 0, 1) := by decide +kernel
theorem dX12_applyTo_231 : decode cX12_applyTo 231 = .ok (.getfield 37, 3) := by decide +kernel
theorem dX12_applyTo_234 : decode cX12_applyTo 234 = .ok (.iload_n 1, 1) := by decide +kernel
theorem dX12_applyTo_235 : decode cX12_applyTo 235 = .ok (.iaload, 1) := by decide +kernel
theorem dX12_applyTo_236 : decode cX12_applyTo 236 = .ok (.aload_n 0, 1) := by decide +kernel
theorem dX12_applyTo_237 : decode cX12_applyTo 237 = .ok (.getfield 190, 3) := by decide +kernel
theorem dX12_applyTo_240 : decode cX12_applyTo 240 = .ok (.isub, 1) := by decide +kernel
theorem dX12_applyTo_241 : decode cX12_applyTo 241 = .ok (.if_icmp .ge 20, 3) := by decide +kernel
theorem dX12_applyTo_244 : decode cX12_applyTo 244 = .ok (.aload_n 0, 1) := by decide +kernel
theorem dX12_applyTo_245 : decode cX12_applyTo 245 = .ok (.getfield 40, 3) := by decide +kernel
theorem dX12_applyTo_248 : decode cX12_applyTo 248 = .ok (.iload_n 1, 1) := by decide +kernel
theorem dX12_applyTo_249 : decode cX12_applyTo 249 = .ok (.aload_n 0, 1) := by decide +kernel
theorem dX12_applyTo_250 : decode cX12_applyTo 250 = .ok (.getfield 37, 3) := by decide +kernel
theorem dX12_applyTo_253 : decode cX12_applyTo 253 = .ok (.iload_n 1, 1) := by decide +kernel
theorem dX12_applyTo_254 : decode cX12_applyTo 254 = .ok (.iaload, 1) := by decide +kernel
theorem dX12_applyTo_255 : decode cX12_applyTo 255 = .ok (.aload_n 0, 1) := by decide +kernel
theorem dX12_applyTo_256 : decode cX12_applyTo 256 = .ok (.getfield 190, 3) := by decide +kernel
theorem dX12_applyTo_259 : decode cX12_applyTo 259 = .ok (.isub, 1) := by decide +kernel
theorem dX12_applyTo_260 : decode cX12_applyTo 260 = .ok (.iastore, 1) := by decide +kernel
theorem dX12_applyTo_261 : decode cX12_applyTo 261 = .ok (.aload_n 0, 1) := by decide +kernel
theorem dX12_applyTo_262 : decode cX12_applyTo 262 = .ok (.getfield 43, 3) := by decide +kernel
theorem dX12_applyTo_265 : decode cX12_applyTo 265 = .ok (.iload_n 1, 1) := by decide +kernel
theorem dX12_applyTo_266 : decode cX12_applyTo 266 = .ok (.iaload, 1) := by decide +kernel
theorem dX12_applyTo_267 : decode cX12_applyTo 267 = .ok (.aload_n 0, 1) := by decide +kernel
theorem dX12_applyTo_268 : decode cX12_applyTo 268 = .ok (.getfield 37, 3) := by decide +kernel
theorem dX12_applyTo_271 : decode cX12_applyTo 271 = .ok (.iload_n 1, 1) := by decide +kernel
theorem dX12_applyTo_272 : decode cX12_applyTo 272 = .ok (.iaload, 1) := by decide +kernel
theorem dX12_applyTo_273 : decode cX12_applyTo 273 = .ok (.aload_n 0, 1) := by decide +kernel
theorem dX12_applyTo_274 : decode cX12_applyTo 274 = .ok (.getfield 193, 3) := by decide +kernel
theorem dX12_applyTo_277 : decode cX12_applyTo 277 = .ok (.isub, 1) := by decide +kernel
theorem dX12_applyTo_278 : decode cX12_applyTo 278 = .ok (.if_icmp .ge 20, 3) := by decide +kernel
theorem dX12_applyTo_281 : decode cX12_applyTo 281 = .ok (.aload_n 0, 1) := by decide +kernel
theorem dX12_applyTo_282 : decode cX12_applyTo 282 = .ok (.getfield 43, 3) := by decide +kernel
theorem dX12_applyTo_285 : decode cX12_applyTo 285 = .ok (.iload_n 1, 1) := by decide +kernel
theorem dX12_applyTo_286 : decode cX12_applyTo 286 = .ok (.aload_n 0, 1) := by decide +kernel
theorem dX12_applyTo_287 : decode cX12_applyTo 287 = .ok (.getfield 37, 3) := by decide +kernel
theorem dX12_applyTo_290 : decode cX12_applyTo 290 = .ok (.iload_n 1, 1) := by decide +kernel
theorem dX12_applyTo_291 : decode cX12_applyTo 291 = .ok (.iaload, 1) := by decide +kernel
theorem dX12_applyTo_292 : decode cX12_applyTo 292 = .ok (.aload_n 0, 1) := by decide +kernel
theorem dX12_applyTo_293 : decode cX12_applyTo 293 = .ok (.getfield 193, 3) := by decide +kernel
theorem dX12_applyTo_296 : decode cX12_applyTo 296 = .ok (.isub, 1) := by decide +kernel
theorem dX12_applyTo_297 : decode cX12_applyTo 297 = .ok (.iastore, 1) := by decide +kernel
theorem dX12_applyTo_298 : decode cX12_applyTo 298 = .ok (.return_, 1) := by decide +kernel
theorem dX12_lay_0 : decode cX12_lay 0 = .ok (.aload_n 0, 1) := by decide +kernel
theorem dX12_lay_1 : decode cX12_lay 1 = .ok (.getfield 133, 3) := by decide +kernel
theorem dX12_lay_4 : decode cX12_lay 4 = .ok (.aload_n 0, 1) := by decide +kernel
theorem dX12_lay_5 : decode cX12_lay 5 = .ok (.getfield 218, 3) := by decide +kernel
theorem dX12_lay_8 : decode cX12_lay 8 = .ok (.iload_n 1, 1) := by decide +kernel
theorem dX12_lay_9 : decode cX12_lay 9 = .ok (.sipush 255, 3) := by decide +kernel
theorem dX12_lay_12 : decode cX12_lay 12 = .ok (.iand, 1) := by decide +kernel
theorem dX12_lay_13 : decode cX12_lay 13 = .ok (.iastore, 1) := by decide +kernel
theorem dX12_lay_14 : decode cX12_lay 14 = .ok (.aload_n 0, 1) := by decide +kernel
theorem dX12_lay_15 : decode cX12_lay 15 = .ok (.dup, 1) := by decide +kernel
theorem dX12_lay_16 : decode cX12_lay 16 = .ok (.getfield 218, 3) := by decide +kernel
theorem dX12_lay_19 : decode cX12_lay 19 = .ok (.iconst 1, 1) := by decide +kernel
theorem dX12_lay_20 : decode cX12_lay 20 = .ok (.iadd, 1) := by decide +kernel
theorem dX12_lay_21 : decode cX12_lay 21 = .ok (.putfield 218, 3) := by decide +kernel
theorem dX12_lay_24 : decode cX12_lay 24 = .ok (.return_, 1) := by decide +kernel
theorem dX12_layU_0 : decode cX12_layU 0 = .ok (.iload_n 1, 1) := by decide +kernel
theorem dX12_layU_1 : decode cX12_layU 1 = .ok (.istore_n 2, 1) := by decide +kernel
theorem dX12_layU_2 : decode cX12_layU 2 = .ok (.iload_n 2, 1) := by decide +kernel
theorem dX12_layU_3 : decode cX12_layU 3 = .ok (.bipush 127, 2) := by decide +kernel
theorem dX12_layU_5 : decode cX12_layU 5 = .ok (.if_icmp .le 25, 3) := by decide +kernel
theorem dX12_layU_8 : decode cX12_layU 8 = .ok (.aload_n 0, 1) := by decide +kernel
theorem dX12_layU_9 : decode cX12_layU 9 = .ok (.iload_n 2, 1) := by decide +kernel
theorem dX12_layU_10 : decode cX12_layU 10 = .ok (.sipush 128, 3) := by decide +kernel
theorem dX12_layU_13 : decode cX12_layU 13 = .ok (.irem, 1) := by decide +kernel
theorem dX12_layU_14 : decode cX12_layU 14 = .ok (.sipush 128, 3) := by decide +kernel
theorem dX12_layU_17 : decode cX12_layU 17 = .ok (.iadd, 1) := by decide +kernel
theorem dX12_layU_18 : decode cX12_layU 18 = .ok (.invokevirtual 221, 3) := by decide +kernel
theorem dX12_layU_21 : decode cX12_layU 21 = .ok (.iload_n 2, 1) := by decide +kernel
theorem dX12_layU_22 : decode cX12_layU 22 = .ok (.sipush 128, 3) := by decide +kernel
theorem dX12_layU_25 : decode cX12_layU 25 = .ok (.idiv, 1) := by decide +kernel
theorem dX12_layU_26 : decode cX12_layU 26 = .ok (.istore_n 2, 1) := by decide +kernel
theorem dX12_layU_27 : decode cX12_layU 27 = .ok (.goto (-25), 3) := by decide +kernel
theorem dX12_layU_30 : decode cX12_layU 30 = .ok (.aload_n 0, 1) := by decide +kernel
theorem dX12_layU_31 : decode cX12_layU 31 = .ok (.iload_n 2, 1) := by decide +kernel
theorem dX12_layU_32 : decode cX12_layU 32 = .ok (.invokevirtual 221, 3) := by decide +kernel
theorem dX12_layU_35 : decode cX12_layU 35 = .ok (.return_, 1) := by decide +kernel
theorem dX12_layTwo_0 : decode cX12_layTwo 0 = .ok (.aload_n 0, 1) := by decide +kernel
theorem dX12_layTwo_1 : decode cX12_layTwo 1 = .ok (.iload_n 1, 1) := by decide +kernel
theorem dX12_layTwo_2 : decode cX12_layTwo 2 = .ok (.bipush 8, 2) := by decide +kernel
theorem dX12_layTwo_4 : decode cX12_layTwo 4 = .ok (.ishr, 1) := by decide +kernel
theorem dX12_layTwo_5 : decode cX12_layTwo 5 = .ok (.invokevirtual 221, 3) := by decide +kernel
theorem dX12_layTwo_8 : decode cX12_layTwo 8 = .ok (.aload_n 0, 1) := by decide +kernel
theorem dX12_layTwo_9 : decode cX12_layTwo 9 = .ok (.iload_n 1, 1) := by decide +kernel
theorem dX12_layTwo_10 : decode cX12_layTwo 10 = .ok (.invokevirtual 221, 3) := by decide +kernel
theorem dX12_layTwo_13 : decode cX12_layTwo 13 = .ok (.return_, 1) := by decide +kernel
theorem dX12_layFour_0 : decode cX12_layFour 0 = .ok (.aload_n 0, 1) := by decide +kernel
theorem dX12_layFour_1 : decode cX12_layFour 1 = .ok (.iload_n 1, 1) := by decide +kernel
theorem dX12_layFour_2 : decode cX12_layFour 2 = .ok (.bipush 16, 2) := by decide +kernel
theorem dX12_layFour_4 : decode cX12_layFour 4 = .ok (.ishr, 1) := by decide +kernel
theorem dX12_layFour_5 : decode cX12_layFour 5 = .ok (.invokevirtual 225, 3) := by decide +kernel
theorem dX12_layFour_8 : decode cX12_layFour 8 = .ok (.aload_n 0, 1) := by decide +kernel
theorem dX12_layFour_9 : decode cX12_layFour 9 = .ok (.iload_n 1, 1) := by decide +kernel
theorem dX12_layFour_10 : decode cX12_layFour 10 = .ok (.invokevirtual 225, 3) := by decide +kernel
theorem dX12_layFour_13 : decode cX12_layFour 13 = .ok (.return_, 1) := by decide +kernel
theorem dX12_layRequest_0 : decode cX12_layRequest 0 = .ok (.aload_n 0, 1) := by decide +kernel
theorem dX12_layRequest_1 : decode cX12_layRequest 1 = .ok (.aload_n 0, 1) := by decide +kernel
theorem dX12_layRequest_2 : decode cX12_layRequest 2 = .ok (.getfield 13, 3) := by decide +kernel
theorem dX12_layRequest_5 : decode cX12_layRequest 5 = .ok (.iload_n 1, 1) := by decide +kernel
theorem dX12_layRequest_6 : decode cX12_layRequest 6 = .ok (.iaload, 1) := by decide +kernel
theorem dX12_layRequest_7 : decode cX12_layRequest 7 = .ok (.invokevirtual 221, 3) := by decide +kernel
theorem dX12_layRequest_10 : decode cX12_layRequest 10 = .ok (.aload_n 0, 1) := by decide +kernel
theorem dX12_layRequest_11 : decode cX12_layRequest 11 = .ok (.aload_n 0, 1) := by decide +kernel
theorem dX12_layRequest_12 : decode cX12_layRequest 12 = .ok (.getfield 17, 3) := by decide +kernel
theorem dX12_layRequest_15 : decode cX12_layRequest 15 = .ok (.iload_n 1, 1) := by decide +kernel
theorem dX12_layRequest_16 : decode cX12_layRequest 16 = .ok (.iaload, 1) := by decide +kernel
theorem dX12_layRequest_17 : decode cX12_layRequest 17 = .ok (.invokevirtual 228, 3) := by decide +kernel
theorem dX12_layRequest_20 : decode cX12_layRequest 20 = .ok (.aload_n 0, 1) := by decide +kernel
theorem dX12_layRequest_21 : decode cX12_layRequest 21 = .ok (.aload_n 0, 1) := by decide +kernel
theorem dX12_layRequest_22 : decode cX12_layRequest 22 = .ok (.getfield 20, 3) := by decide +kernel
theorem dX12_layRequest_25 : decode cX12_layRequest 25 = .ok (.iload_n 1, 1) := by decide +kernel
theorem dX12_layRequest_26 : decode cX12_layRequest 26 = .ok (.iaload, 1) := by decide +kernel
theorem dX12_layRequest_27 : decode cX12_layRequest 27 = .ok (.invokevirtual 228, 3) := by decide +kernel
theorem dX12_layRequest_30 : decode cX12_layRequest 30 = .ok (.aload_n 0, 1) := by decide +kernel
theorem dX12_layRequest_31 : decode cX12_layRequest 31 = .ok (.aload_n 0, 1) := by decide +kernel
theorem dX12_layRequest_32 : decode cX12_layRequest 32 = .ok (.getfield 23, 3) := by decide +kernel
theorem dX12_layRequest_35 : decode cX12_layRequest 35 = .ok (.iload_n 1, 1) := by decide +kernel
theorem dX12_layRequest_36 : decode cX12_layRequest 36 = .ok (.iaload, 1) := by decide +kernel
theorem dX12_layRequest_37 : decode cX12_layRequest 37 = .ok (.invokevirtual 225, 3) := by decide +kernel
theorem dX12_layRequest_40 : decode cX12_layRequest 40 = .ok (.aload_n 0, 1) := by decide +kernel
theorem dX12_layRequest_41 : decode cX12_layRequest 41 = .ok (.aload_n 0, 1) := by decide +kernel
theorem dX12_layRequest_42 : decode cX12_layRequest 42 = .ok (.getfield 26, 3) := by decide +kernel
theorem dX12_layRequest_45 : decode cX12_layRequest 45 = .ok (.iload_n 1, 1) := by decide +kernel
theorem dX12_layRequest_46 : decode cX12_layRequest 46 = .ok (.iaload, 1) := by decide +kernel
theorem dX12_layRequest_47 : decode cX12_layRequest 47 = .ok (.invokevirtual 225, 3) := by decide +kernel
theorem dX12_layRequest_50 : decode cX12_layRequest 50 = .ok (.iconst 0, 1) := by decide +kernel
theorem dX12_layRequest_51 : decode cX12_layRequest 51 = .ok (.istore_n 2, 1) := by decide +kernel
theorem dX12_layRequest_52 : decode cX12_layRequest 52 = .ok (.iload_n 2, 1) := by decide +kernel
theorem dX12_layRequest_53 : decode cX12_layRequest 53 = .ok (.bipush 16, 2) := by decide +kernel
theorem dX12_layRequest_55 : decode cX12_layRequest 55 = .ok (.if_icmp .ge 38, 3) := by decide +kernel
theorem dX12_layRequest_58 : decode cX12_layRequest 58 = .ok (.aload_n 0, 1) := by decide +kernel
theorem dX12_layRequest_59 : decode cX12_layRequest 59 = .ok (.getfield 26, 3) := by decide +kernel
theorem dX12_layRequest_62 : decode cX12_layRequest 62 = .ok (.iload_n 1, 1) := by decide +kernel
theorem dX12_layRequest_63 : decode cX12_layRequest 63 = .ok (.iaload, 1) := by decide +kernel
theorem dX12_layRequest_64 : decode cX12_layRequest 64 = .ok (.iload_n 2, 1) := by decide +kernel
theorem dX12_layRequest_65 : decode cX12_layRequest 65 = .ok (.ishr, 1) := by decide +kernel
theorem dX12_layRequest_66 : decode cX12_layRequest 66 = .ok (.iconst 1, 1) := by decide +kernel
theorem dX12_layRequest_67 : decode cX12_layRequest 67 = .ok (.iand, 1) := by decide +kernel
theorem dX12_layRequest_68 : decode cX12_layRequest 68 = .ok (.iconst 1, 1) := by decide +kernel
theorem dX12_layRequest_69 : decode cX12_layRequest 69 = .ok (.if_icmp .ne 18, 3) := by decide +kernel
theorem dX12_layRequest_72 : decode cX12_layRequest 72 = .ok (.aload_n 0, 1) := by decide +kernel
theorem dX12_layRequest_73 : decode cX12_layRequest 73 = .ok (.aload_n 0, 1) := by decide +kernel
theorem dX12_layRequest_74 : decode cX12_layRequest 74 = .ok (.getfield 30, 3) := by decide +kernel
theorem dX12_layRequest_77 : decode cX12_layRequest 77 = .ok (.bipush 16, 2) := by decide +kernel
theorem dX12_layRequest_79 : decode cX12_layRequest 79 = .ok (.iload_n 1, 1) := by decide +kernel
theorem dX12_layRequest_80 : decode cX12_layRequest 80 = .ok (.imul, 1) := by decide +kernel
theorem dX12_layRequest_81 : decode cX12_layRequest 81 = .ok (.iload_n 2, 1) := by decide +kernel
theorem dX12_layRequest_82 : decode cX12_layRequest 82 = .ok (.iadd, 1) := by decide +kernel
theorem dX12_layRequest_83 : decode cX12_layRequest 83 = .ok (.iaload, 1) := by decide +kernel
theorem dX12_layRequest_84 : decode cX12_layRequest 84 = .ok (.invokevirtual 231, 3) := by decide +kernel
theorem dX12_layRequest_87 : decode cX12_layRequest 87 = .ok (.iinc 2 1, 3) := by decide +kernel
theorem dX12_layRequest_90 : decode cX12_layRequest 90 = .ok (.goto (-38), 3) := by decide +kernel
theorem dX12_layRequest_93 : decode cX12_layRequest 93 = .ok (.return_, 1) := by decide +kernel
theorem dX12_layState_0 : decode cX12_layState 0 = .ok (.aload_n 0, 1) := by decide +kernel
theorem dX12_layState_1 : decode cX12_layState 1 = .ok (.aload_n 1, 1) := by decide +kernel
theorem dX12_layState_2 : decode cX12_layState 2 = .ok (.iload_n 2, 1) := by decide +kernel
theorem dX12_layState_3 : decode cX12_layState 3 = .ok (.iaload, 1) := by decide +kernel
theorem dX12_layState_4 : decode cX12_layState 4 = .ok (.invokevirtual 228, 3) := by decide +kernel
theorem dX12_layState_7 : decode cX12_layState 7 = .ok (.iconst 0, 1) := by decide +kernel
theorem dX12_layState_8 : decode cX12_layState 8 = .ok (.istore_n 3, 1) := by decide +kernel
theorem dX12_layState_9 : decode cX12_layState 9 = .ok (.iload_n 3, 1) := by decide +kernel
theorem dX12_layState_10 : decode cX12_layState 10 = .ok (.bipush 16, 2) := by decide +kernel
theorem dX12_layState_12 : decode cX12_layState 12 = .ok (.if_icmp .ge 20, 3) := by decide +kernel
theorem dX12_layState_15 : decode cX12_layState 15 = .ok (.aload_n 0, 1) := by decide +kernel
theorem dX12_layState_16 : decode cX12_layState 16 = .ok (.aload_n 1, 1) := by decide +kernel
theorem dX12_layState_17 : decode cX12_layState 17 = .ok (.iload_n 2, 1) := by decide +kernel
theorem dX12_layState_18 : decode cX12_layState 18 = .ok (.iconst 1, 1) := by decide +kernel
theorem dX12_layState_19 : decode cX12_layState 19 = .ok (.iadd, 1) := by decide +kernel
theorem dX12_layState_20 : decode cX12_layState 20 = .ok (.iload_n 3, 1) := by decide +kernel
theorem dX12_layState_21 : decode cX12_layState 21 = .ok (.iadd, 1) := by decide +kernel
theorem dX12_layState_22 : decode cX12_layState 22 = .ok (.iaload, 1) := by decide +kernel
theorem dX12_layState_23 : decode cX12_layState 23 = .ok (.invokevirtual 231, 3) := by decide +kernel
theorem dX12_layState_26 : decode cX12_layState 26 = .ok (.iinc 3 1, 3) := by decide +kernel
theorem dX12_layState_29 : decode cX12_layState 29 = .ok (.goto (-20), 3) := by decide +kernel
theorem dX12_layState_32 : decode cX12_layState 32 = .ok (.iconst 0, 1) := by decide +kernel
theorem dX12_layState_33 : decode cX12_layState 33 = .ok (.istore_n 3, 1) := by decide +kernel
theorem dX12_layState_34 : decode cX12_layState 34 = .ok (.iload_n 3, 1) := by decide +kernel
theorem dX12_layState_35 : decode cX12_layState 35 = .ok (.bipush 16, 2) := by decide +kernel
theorem dX12_layState_37 : decode cX12_layState 37 = .ok (.if_icmp .ge 33, 3) := by decide +kernel
theorem dX12_layState_40 : decode cX12_layState 40 = .ok (.aload_n 0, 1) := by decide +kernel
theorem dX12_layState_41 : decode cX12_layState 41 = .ok (.aload_n 1, 1) := by decide +kernel
theorem dX12_layState_42 : decode cX12_layState 42 = .ok (.iload_n 2, 1) := by decide +kernel
theorem dX12_layState_43 : decode cX12_layState 43 = .ok (.bipush 17, 2) := by decide +kernel
theorem dX12_layState_45 : decode cX12_layState 45 = .ok (.iadd, 1) := by decide +kernel
theorem dX12_layState_46 : decode cX12_layState 46 = .ok (.iload_n 3, 1) := by decide +kernel
theorem dX12_layState_47 : decode cX12_layState 47 = .ok (.iadd, 1) := by decide +kernel
theorem dX12_layState_48 : decode cX12_layState 48 = .ok (.iaload, 1) := by decide +kernel
theorem dX12_layState_49 : decode cX12_layState 49 = .ok (.invokevirtual 228, 3) := by decide +kernel
theorem dX12_layState_52 : decode cX12_layState 52 = .ok (.aload_n 0, 1) := by decide +kernel
theorem dX12_layState_53 : decode cX12_layState 53 = .ok (.aload_n 1, 1) := by decide +kernel
theorem dX12_layState_54 : decode cX12_layState 54 = .ok (.iload_n 2, 1) := by decide +kernel
theorem dX12_layState_55 : decode cX12_layState 55 = .ok (.bipush 33, 2) := by decide +kernel
theorem dX12_layState_57 : decode cX12_layState 57 = .ok (.iadd, 1) := by decide +kernel
theorem dX12_layState_58 : decode cX12_layState 58 = .ok (.iload_n 3, 1) := by decide +kernel
theorem dX12_layState_59 : decode cX12_layState 59 = .ok (.iadd, 1) := by decide +kernel
theorem dX12_layState_60 : decode cX12_layState 60 = .ok (.iaload, 1) := by decide +kernel
theorem dX12_layState_61 : decode cX12_layState 61 = .ok (.invokevirtual 221, 3) := by decide +kernel
theorem dX12_layState_64 : decode cX12_layState 64 = .ok (.iinc 3 1, 3) := by decide +kernel
theorem dX12_layState_67 : decode cX12_layState 67 = .ok (.goto (-33), 3) := by decide +kernel
theorem dX12_layState_70 : decode cX12_layState 70 = .ok (.iconst 0, 1) := by decide +kernel
theorem dX12_layState_71 : decode cX12_layState 71 = .ok (.istore_n 3, 1) := by decide +kernel
theorem dX12_layState_72 : decode cX12_layState 72 = .ok (.iload_n 3, 1) := by decide +kernel
theorem dX12_layState_73 : decode cX12_layState 73 = .ok (.aload_n 0, 1) := by decide +kernel
theorem dX12_layState_74 : decode cX12_layState 74 = .ok (.getfield 190, 3) := by decide +kernel
theorem dX12_layState_77 : decode cX12_layState 77 = .ok (.if_icmp .ge 21, 3) := by decide +kernel
theorem dX12_layState_80 : decode cX12_layState 80 = .ok (.aload_n 0, 1) := by decide +kernel
theorem dX12_layState_81 : decode cX12_layState 81 = .ok (.aload_n 1, 1) := by decide +kernel
theorem dX12_layState_82 : decode cX12_layState 82 = .ok (.iload_n 2, 1) := by decide +kernel
theorem dX12_layState_83 : decode cX12_layState 83 = .ok (.bipush 49, 2) := by decide +kernel
theorem dX12_layState_85 : decode cX12_layState 85 = .ok (.iadd, 1) := by decide +kernel
theorem dX12_layState_86 : decode cX12_layState 86 = .ok (.iload_n 3, 1) := by decide +kernel
theorem dX12_layState_87 : decode cX12_layState 87 = .ok (.iadd, 1) := by decide +kernel
theorem dX12_layState_88 : decode cX12_layState 88 = .ok (.iaload, 1) := by decide +kernel
theorem dX12_layState_89 : decode cX12_layState 89 = .ok (.invokevirtual 225, 3) := by decide +kernel
theorem dX12_layState_92 : decode cX12_layState 92 = .ok (.iinc 3 1, 3) := by decide +kernel
theorem dX12_layState_95 : decode cX12_layState 95 = .ok (.goto (-23), 3) := by decide +kernel
theorem dX12_layState_98 : decode cX12_layState 98 = .ok (.return_, 1) := by decide +kernel
theorem dX12_layCheck_0 : decode cX12_layCheck 0 = .ok (.iconst (-1), 1) := by decide +kernel
theorem dX12_layCheck_1 : decode cX12_layCheck 1 = .ok (.istore_n 2, 1) := by decide +kernel
theorem dX12_layCheck_2 : decode cX12_layCheck 2 = .ok (.iload_n 1, 1) := by decide +kernel
theorem dX12_layCheck_3 : decode cX12_layCheck 3 = .ok (.istore_n 3, 1) := by decide +kernel
theorem dX12_layCheck_4 : decode cX12_layCheck 4 = .ok (.iload_n 3, 1) := by decide +kernel
theorem dX12_layCheck_5 : decode cX12_layCheck 5 = .ok (.aload_n 0, 1) := by decide +kernel
theorem dX12_layCheck_6 : decode cX12_layCheck 6 = .ok (.getfield 218, 3) := by decide +kernel
theorem dX12_layCheck_9 : decode cX12_layCheck 9 = .ok (.if_icmp .ge 58, 3) := by decide +kernel
theorem dX12_layCheck_12 : decode cX12_layCheck 12 = .ok (.iload_n 2, 1) := by decide +kernel
theorem dX12_layCheck_13 : decode cX12_layCheck 13 = .ok (.aload_n 0, 1) := by decide +kernel
theorem dX12_layCheck_14 : decode cX12_layCheck 14 = .ok (.getfield 133, 3) := by decide +kernel
theorem dX12_layCheck_17 : decode cX12_layCheck 17 = .ok (.iload_n 3, 1) := by decide +kernel
theorem dX12_layCheck_18 : decode cX12_layCheck 18 = .ok (.iaload, 1) := by decide +kernel
theorem dX12_layCheck_19 : decode cX12_layCheck 19 = .ok (.ixor, 1) := by decide +kernel
theorem dX12_layCheck_20 : decode cX12_layCheck 20 = .ok (.istore_n 2, 1) := by decide +kernel
theorem dX12_layCheck_21 : decode cX12_layCheck 21 = .ok (.iconst 0, 1) := by decide +kernel
theorem dX12_layCheck_22 : decode cX12_layCheck 22 = .ok (.istore 4, 2) := by decide +kernel
theorem dX12_layCheck_24 : decode cX12_layCheck 24 = .ok (.iload 4, 2) := by decide +kernel
theorem dX12_layCheck_26 : decode cX12_layCheck 26 = .ok (.bipush 8, 2) := by decide +kernel
theorem dX12_layCheck_28 : decode cX12_layCheck 28 = .ok (.if_icmp .ge 33, 3) := by decide +kernel
theorem dX12_layCheck_31 : decode cX12_layCheck 31 = .ok (.iload_n 2, 1) := by decide +kernel
theorem dX12_layCheck_32 : decode cX12_layCheck 32 = .ok (.iconst 1, 1) := by decide +kernel
theorem dX12_layCheck_33 : decode cX12_layCheck 33 = .ok (.iand, 1) := by decide +kernel
theorem dX12_layCheck_34 : decode cX12_layCheck 34 = .ok (.istore 5, 2) := by decide +kernel
theorem dX12_layCheck_36 : decode cX12_layCheck 36 = .ok (.iload_n 2, 1) := by decide +kernel
theorem dX12_layCheck_37 : decode cX12_layCheck 37 = .ok (.iconst 1, 1) := by decide +kernel
theorem dX12_layCheck_38 : decode cX12_layCheck 38 = .ok (.iushr, 1) := by decide +kernel
theorem dX12_layCheck_39 : decode cX12_layCheck 39 = .ok (.istore_n 2, 1) := by decide +kernel
theorem dX12_layCheck_40 : decode cX12_layCheck 40 = .ok (.iload_n 2, 1) := by decide +kernel
theorem dX12_layCheck_41 : decode cX12_layCheck 41 = .ok (.iload 5, 2) := by decide +kernel
theorem dX12_layCheck_43 : decode cX12_layCheck 43 = .ok (.iconst 1, 1) := by decide +kernel
theorem dX12_layCheck_44 : decode cX12_layCheck 44 = .ok (.if_icmp .ne 8, 3) := by decide +kernel
theorem dX12_layCheck_47 : decode cX12_layCheck 47 = .ok (.ldc 234, 2) := by decide +kernel
theorem dX12_layCheck_49 : decode cX12_layCheck 49 = .ok (.goto 4, 3) := by decide +kernel
theorem dX12_layCheck_52 : decode cX12_layCheck 52 = .ok (.iconst 0, 1) := by decide +kernel
theorem dX12_layCheck_53 : decode cX12_layCheck 53 = .ok (.ixor, 1) := by decide +kernel
theorem dX12_layCheck_54 : decode cX12_layCheck 54 = .ok (.istore_n 2, 1) := by decide +kernel
theorem dX12_layCheck_55 : decode cX12_layCheck 55 = .ok (.iinc 4 1, 3) := by decide +kernel
theorem dX12_layCheck_58 : decode cX12_layCheck 58 = .ok (.goto (-34), 3) := by decide +kernel
theorem dX12_layCheck_61 : decode cX12_layCheck 61 = .ok (.iinc 3 1, 3) := by decide +kernel
theorem dX12_layCheck_64 : decode cX12_layCheck 64 = .ok (.goto (-60), 3) := by decide +kernel
theorem dX12_layCheck_67 : decode cX12_layCheck 67 = .ok (.iload_n 2, 1) := by decide +kernel
theorem dX12_layCheck_68 : decode cX12_layCheck 68 = .ok (.iconst (-1), 1) := by decide +kernel
theorem dX12_layCheck_69 : decode cX12_layCheck 69 = .ok (.ixor, 1) := by decide +kernel
theorem dX12_layCheck_70 : decode cX12_layCheck 70 = .ok (.istore_n 2, 1) := by decide +kernel
theorem dX12_layCheck_71 : decode cX12_layCheck 71 = .ok (.iconst 0, 1) := by decide +kernel
theorem dX12_layCheck_72 : decode cX12_layCheck 72 = .ok (.istore_n 3, 1) := by decide +kernel
theorem dX12_layCheck_73 : decode cX12_layCheck 73 = .ok (.iload_n 3, 1) := by decide +kernel
theorem dX12_layCheck_74 : decode cX12_layCheck 74 = .ok (.iconst 4, 1) := by decide +kernel
theorem dX12_layCheck_75 : decode cX12_layCheck 75 = .ok (.if_icmp .ge 19, 3) := by decide +kernel
theorem dX12_layCheck_78 : decode cX12_layCheck 78 = .ok (.aload_n 0, 1) := by decide +kernel
theorem dX12_layCheck_79 : decode cX12_layCheck 79 = .ok (.iload_n 2, 1) := by decide +kernel
theorem dX12_layCheck_80 : decode cX12_layCheck 80 = .ok (.bipush 8, 2) := by decide +kernel
theorem dX12_layCheck_82 : decode cX12_layCheck 82 = .ok (.iload_n 3, 1) := by decide +kernel
theorem dX12_layCheck_83 : decode cX12_layCheck 83 = .ok (.imul, 1) := by decide +kernel
theorem dX12_layCheck_84 : decode cX12_layCheck 84 = .ok (.iushr, 1) := by decide +kernel
theorem dX12_layCheck_85 : decode cX12_layCheck 85 = .ok (.invokevirtual 221, 3) := by decide +kernel
theorem dX12_layCheck_88 : decode cX12_layCheck 88 = .ok (.iinc 3 1, 3) := by decide +kernel
theorem dX12_layCheck_91 : decode cX12_layCheck 91 = .ok (.goto (-18), 3) := by decide +kernel
theorem dX12_layCheck_94 : decode cX12_layCheck 94 = .ok (.return_, 1) := by decide +kernel
theorem dX12_layHead_0 : decode cX12_layHead 0 = .ok (.aload_n 0, 1) := by decide +kernel
theorem dX12_layHead_1 : decode cX12_layHead 1 = .ok (.iconst 0, 1) := by decide +kernel
theorem dX12_layHead_2 : decode cX12_layHead 2 = .ok (.putfield 218, 3) := by decide +kernel
theorem dX12_layHead_5 : decode cX12_layHead 5 = .ok (.aload_n 0, 1) := by decide +kernel
theorem dX12_layHead_6 : decode cX12_layHead 6 = .ok (.bipush 74, 2) := by decide +kernel
theorem dX12_layHead_8 : decode cX12_layHead 8 = .ok (.invokevirtual 221, 3) := by decide +kernel
theorem dX12_layHead_11 : decode cX12_layHead 11 = .ok (.aload_n 0, 1) := by decide +kernel
theorem dX12_layHead_12 : decode cX12_layHead 12 = .ok (.bipush 49, 2) := by decide +kernel
theorem dX12_layHead_14 : decode cX12_layHead 14 = .ok (.invokevirtual 221, 3) := by decide +kernel
theorem dX12_layHead_17 : decode cX12_layHead 17 = .ok (.aload_n 0, 1) := by decide +kernel
theorem dX12_layHead_18 : decode cX12_layHead 18 = .ok (.iload_n 1, 1) := by decide +kernel
theorem dX12_layHead_19 : decode cX12_layHead 19 = .ok (.invokevirtual 221, 3) := by decide +kernel
theorem dX12_layHead_22 : decode cX12_layHead 22 = .ok (.aload_n 0, 1) := by decide +kernel
theorem dX12_layHead_23 : decode cX12_layHead 23 = .ok (.iconst 0, 1) := by decide +kernel
theorem dX12_layHead_24 : decode cX12_layHead 24 = .ok (.invokevirtual 221, 3) := by decide +kernel
theorem dX12_layHead_27 : decode cX12_layHead 27 = .ok (.iconst 0, 1) := by decide +kernel
theorem dX12_layHead_28 : decode cX12_layHead 28 = .ok (.istore_n 3, 1) := by decide +kernel
theorem dX12_layHead_29 : decode cX12_layHead 29 = .ok (.iload_n 3, 1) := by decide +kernel
theorem dX12_layHead_30 : decode cX12_layHead 30 = .ok (.iconst 4, 1) := by decide +kernel
theorem dX12_layHead_31 : decode cX12_layHead 31 = .ok (.if_icmp .ge 19, 3) := by decide +kernel
theorem dX12_layHead_34 : decode cX12_layHead 34 = .ok (.aload_n 0, 1) := by decide +kernel
theorem dX12_layHead_35 : decode cX12_layHead 35 = .ok (.iload_n 2, 1) := by decide +kernel
theorem dX12_layHead_36 : decode cX12_layHead 36 = .ok (.bipush 8, 2) := by decide +kernel
theorem dX12_layHead_38 : decode cX12_layHead 38 = .ok (.iload_n 3, 1) := by decide +kernel
theorem dX12_layHead_39 : decode cX12_layHead 39 = .ok (.imul, 1) := by decide +kernel
theorem dX12_layHead_40 : decode cX12_layHead 40 = .ok (.iushr, 1) := by decide +kernel
theorem dX12_layHead_41 : decode cX12_layHead 41 = .ok (.invokevirtual 221, 3) := by decide +kernel
theorem dX12_layHead_44 : decode cX12_layHead 44 = .ok (.iinc 3 1, 3) := by decide +kernel
theorem dX12_layHead_47 : decode cX12_layHead 47 = .ok (.goto (-18), 3) := by decide +kernel
theorem dX12_layHead_50 : decode cX12_layHead 50 = .ok (.aload_n 0, 1) := by decide +kernel
theorem dX12_layHead_51 : decode cX12_layHead 51 = .ok (.iconst 0, 1) := by decide +kernel
theorem dX12_layHead_52 : decode cX12_layHead 52 = .ok (.invokevirtual 235, 3) := by decide +kernel
theorem dX12_layHead_55 : decode cX12_layHead 55 = .ok (.return_, 1) := by decide +kernel
theorem dX12_asRecord_0 : decode cX12_asRecord 0 = .ok (.aload_n 0, 1) := by decide +kernel
theorem dX12_asRecord_1 : decode cX12_asRecord 1 = .ok (.getfield 218, 3) := by decide +kernel
theorem dX12_asRecord_4 : decode cX12_asRecord 4 = .ok (.iload_n 1, 1) := by decide +kernel
theorem dX12_asRecord_5 : decode cX12_asRecord 5 = .ok (.isub, 1) := by decide +kernel
theorem dX12_asRecord_6 : decode cX12_asRecord 6 = .ok (.istore_n 2, 1) := by decide +kernel
theorem dX12_asRecord_7 : decode cX12_asRecord 7 = .ok (.aload_n 0, 1) := by decide +kernel
theorem dX12_asRecord_8 : decode cX12_asRecord 8 = .ok (.getfield 218, 3) := by decide +kernel
theorem dX12_asRecord_11 : decode cX12_asRecord 11 = .ok (.iconst 1, 1) := by decide +kernel
theorem dX12_asRecord_12 : decode cX12_asRecord 12 = .ok (.isub, 1) := by decide +kernel
theorem dX12_asRecord_13 : decode cX12_asRecord 13 = .ok (.istore_n 3, 1) := by decide +kernel
theorem dX12_asRecord_14 : decode cX12_asRecord 14 = .ok (.iload_n 3, 1) := by decide +kernel
theorem dX12_asRecord_15 : decode cX12_asRecord 15 = .ok (.iload_n 1, 1) := by decide +kernel
theorem dX12_asRecord_16 : decode cX12_asRecord 16 = .ok (.if_icmp .lt 23, 3) := by decide +kernel
theorem dX12_asRecord_19 : decode cX12_asRecord 19 = .ok (.aload_n 0, 1) := by decide +kernel
theorem dX12_asRecord_20 : decode cX12_asRecord 20 = .ok (.getfield 133, 3) := by decide +kernel
theorem dX12_asRecord_23 : decode cX12_asRecord 23 = .ok (.iload_n 3, 1) := by decide +kernel
theorem dX12_asRecord_24 : decode cX12_asRecord 24 = .ok (.iconst 2, 1) := by decide +kernel
theorem dX12_asRecord_25 : decode cX12_asRecord 25 = .ok (.iadd, 1) := by decide +kernel
theorem dX12_asRecord_26 : decode cX12_asRecord 26 = .ok (.aload_n 0, 1) := by decide +kernel
theorem dX12_asRecord_27 : decode cX12_asRecord 27 = .ok (.getfield 133, 3) := by decide +kernel
theorem dX12_asRecord_30 : decode cX12_asRecord 30 = .ok (.iload_n 3, 1) := by decide +kernel
theorem dX12_asRecord_31 : decode cX12_asRecord 31 = .ok (.iaload, 1) := by decide +kernel
theorem dX12_asRecord_32 : decode cX12_asRecord 32 = .ok (.iastore, 1) := by decide +kernel
theorem dX12_asRecord_33 : decode cX12_asRecord 33 = .ok (.iinc 3 (-1), 3) := by decide +kernel
theorem dX12_asRecord_36 : decode cX12_asRecord 36 = .ok (.goto (-22), 3) := by decide +kernel
theorem dX12_asRecord_39 : decode cX12_asRecord 39 = .ok (.aload_n 0, 1) := by decide +kernel
theorem dX12_asRecord_40 : decode cX12_asRecord 40 = .ok (.getfield 133, 3) := by decide +kernel
theorem dX12_asRecord_43 : decode cX12_asRecord 43 = .ok (.iload_n 1, 1) := by decide +kernel
theorem dX12_asRecord_44 : decode cX12_asRecord 44 = .ok (.iload_n 2, 1) := by decide +kernel
theorem dX12_asRecord_45 : decode cX12_asRecord 45 = .ok (.sipush 255, 3) := by decide +kernel
theorem dX12_asRecord_48 : decode cX12_asRecord 48 = .ok (.iand, 1) := by decide +kernel
theorem dX12_asRecord_49 : decode cX12_asRecord 49 = .ok (.iastore, 1) := by decide +kernel
theorem dX12_asRecord_50 : decode cX12_asRecord 50 = .ok (.aload_n 0, 1) := by decide +kernel
theorem dX12_asRecord_51 : decode cX12_asRecord 51 = .ok (.getfield 133, 3) := by decide +kernel
theorem dX12_asRecord_54 : decode cX12_asRecord 54 = .ok (.iload_n 1, 1) := by decide +kernel
theorem dX12_asRecord_55 : decode cX12_asRecord 55 = .ok (.iconst 1, 1) := by decide +kernel
theorem dX12_asRecord_56 : decode cX12_asRecord 56 = .ok (.iadd, 1) := by decide +kernel
theorem dX12_asRecord_57 : decode cX12_asRecord 57 = .ok (.iload_n 2, 1) := by decide +kernel
theorem dX12_asRecord_58 : decode cX12_asRecord 58 = .ok (.bipush 8, 2) := by decide +kernel
theorem dX12_asRecord_60 : decode cX12_asRecord 60 = .ok (.ishr, 1) := by decide +kernel
theorem dX12_asRecord_61 : decode cX12_asRecord 61 = .ok (.iastore, 1) := by decide +kernel
theorem dX12_asRecord_62 : decode cX12_asRecord 62 = .ok (.aload_n 0, 1) := by decide +kernel
theorem dX12_asRecord_63 : decode cX12_asRecord 63 = .ok (.dup, 1) := by decide +kernel
theorem dX12_asRecord_64 : decode cX12_asRecord 64 = .ok (.getfield 218, 3) := by decide +kernel
theorem dX12_asRecord_67 : decode cX12_asRecord 67 = .ok (.iconst 2, 1) := by decide +kernel
theorem dX12_asRecord_68 : decode cX12_asRecord 68 = .ok (.iadd, 1) := by decide +kernel
theorem dX12_asRecord_69 : decode cX12_asRecord 69 = .ok (.putfield 218, 3) := by decide +kernel
theorem dX12_asRecord_72 : decode cX12_asRecord 72 = .ok (.aload_n 0, 1) := by decide +kernel
theorem dX12_asRecord_73 : decode cX12_asRecord 73 = .ok (.iload_n 1, 1) := by decide +kernel
theorem dX12_asRecord_74 : decode cX12_asRecord 74 = .ok (.invokevirtual 235, 3) := by decide +kernel
theorem dX12_asRecord_77 : decode cX12_asRecord 77 = .ok (.iload_n 2, 1) := by decide +kernel
theorem dX12_asRecord_78 : decode cX12_asRecord 78 = .ok (.iconst 2, 1) := by decide +kernel
theorem dX12_asRecord_79 : decode cX12_asRecord 79 = .ok (.irem, 1) := by decide +kernel
theorem dX12_asRecord_80 : decode cX12_asRecord 80 = .ok (.iconst 1, 1) := by decide +kernel
theorem dX12_asRecord_81 : decode cX12_asRecord 81 = .ok (.if_icmp .ne 8, 3) := by decide +kernel
theorem dX12_asRecord_84 : decode cX12_asRecord 84 = .ok (.aload_n 0, 1) := by decide +kernel
theorem dX12_asRecord_85 : decode cX12_asRecord 85 = .ok (.iconst 0, 1) := by decide +kernel
theorem dX12_asRecord_86 : decode cX12_asRecord 86 = .ok (.invokevirtual 221, 3) := by decide +kernel
theorem dX12_asRecord_89 : decode cX12_asRecord 89 = .ok (.return_, 1) := by decide +kernel
theorem dX12_putBlock_0 : decode cX12_putBlock 0 = .ok (.aload_n 0, 1) := by decide +kernel
theorem dX12_putBlock_1 : decode cX12_putBlock 1 = .ok (.getfield 122, 3) := by decide +kernel
theorem dX12_putBlock_4 : decode cX12_putBlock 4 = .ok (.iload_n 1, 1) := by decide +kernel
theorem dX12_putBlock_5 : decode cX12_putBlock 5 = .ok (.iaload, 1) := by decide +kernel
theorem dX12_putBlock_6 : decode cX12_putBlock 6 = .ok (.ifCond .ne 17, 3) := by decide +kernel
theorem dX12_putBlock_9 : decode cX12_putBlock 9 = .ok (.aload_n 0, 1) := by decide +kernel
theorem dX12_putBlock_10 : decode cX12_putBlock 10 = .ok (.getfield 122, 3) := by decide +kernel
theorem dX12_putBlock_13 : decode cX12_putBlock 13 = .ok (.iload_n 1, 1) := by decide +kernel
theorem dX12_putBlock_14 : decode cX12_putBlock 14 = .ok (.iconst (-1), 1) := by decide +kernel
theorem dX12_putBlock_15 : decode cX12_putBlock 15 = .ok (.iastore, 1) := by decide +kernel
theorem dX12_putBlock_16 : decode cX12_putBlock 16 = .ok (.aload_n 0, 1) := by decide +kernel
theorem dX12_putBlock_17 : decode cX12_putBlock 17 = .ok (.iload_n 1, 1) := by decide +kernel
theorem dX12_putBlock_18 : decode cX12_putBlock 18 = .ok (.invokevirtual 238, 3) := by decide +kernel
theorem dX12_putBlock_21 : decode cX12_putBlock 21 = .ok (.iconst 0, 1) := by decide +kernel
theorem dX12_putBlock_22 : decode cX12_putBlock 22 = .ok (.ireturn, 1) := by decide +kernel
theorem dX12_putBlock_23 : decode cX12_putBlock 23 = .ok (.aload_n 0, 1) := by decide +kernel
theorem dX12_putBlock_24 : decode cX12_putBlock 24 = .ok (.getfield 122, 3) := by decide +kernel
theorem dX12_putBlock_27 : decode cX12_putBlock 27 = .ok (.iload_n 1, 1) := by decide +kernel
theorem dX12_putBlock_28 : decode cX12_putBlock 28 = .ok (.dup2, 1) := by decide +kernel
theorem dX12_putBlock_29 : decode cX12_putBlock 29 = .ok (.iaload, 1) := by decide +kernel
theorem dX12_putBlock_30 : decode cX12_putBlock 30 = .ok (.aload_n 0, 1) := by decide +kernel
theorem dX12_putBlock_31 : decode cX12_putBlock 31 = .ok (.getfield 122, 3) := by decide +kernel
theorem dX12_putBlock_34 : decode cX12_putBlock 34 = .ok (.iload_n 1, 1) := by decide +kernel
theorem dX12_putBlock_35 : decode cX12_putBlock 35 = .ok (.iaload, 1) := by decide +kernel
theorem dX12_putBlock_36 : decode cX12_putBlock 36 = .ok (.ifCond .le 7, 3) := by decide +kernel
theorem dX12_putBlock_39 : decode cX12_putBlock 39 = .ok (.iconst 1, 1) := by decide +kernel
theorem dX12_putBlock_40 : decode cX12_putBlock 40 = .ok (.goto 4, 3) := by decide +kernel
theorem dX12_putBlock_43 : decode cX12_putBlock 43 = .ok (.iconst 0, 1) := by decide +kernel
theorem dX12_putBlock_44 : decode cX12_putBlock 44 = .ok (.isub, 1) := by decide +kernel
theorem dX12_putBlock_45 : decode cX12_putBlock 45 = .ok (.iastore, 1) := by decide +kernel
theorem dX12_putBlock_46 : decode cX12_putBlock 46 = .ok (.aload_n 0, 1) := by decide +kernel
theorem dX12_putBlock_47 : decode cX12_putBlock 47 = .ok (.getfield 119, 3) := by decide +kernel
theorem dX12_putBlock_50 : decode cX12_putBlock 50 = .ok (.iload_n 1, 1) := by decide +kernel
theorem dX12_putBlock_51 : decode cX12_putBlock 51 = .ok (.dup2, 1) := by decide +kernel
theorem dX12_putBlock_52 : decode cX12_putBlock 52 = .ok (.iaload, 1) := by decide +kernel
theorem dX12_putBlock_53 : decode cX12_putBlock 53 = .ok (.iconst 1, 1) := by decide +kernel
theorem dX12_putBlock_54 : decode cX12_putBlock 54 = .ok (.iadd, 1) := by decide +kernel
theorem dX12_putBlock_55 : decode cX12_putBlock 55 = .ok (.iastore, 1) := by decide +kernel
theorem dX12_putBlock_56 : decode cX12_putBlock 56 = .ok (.iconst 0, 1) := by decide +kernel
theorem dX12_putBlock_57 : decode cX12_putBlock 57 = .ok (.istore 4, 2) := by decide +kernel
theorem dX12_putBlock_59 : decode cX12_putBlock 59 = .ok (.iload 4, 2) := by decide +kernel
theorem dX12_putBlock_61 : decode cX12_putBlock 61 = .ok (.sipush 512, 3) := by decide +kernel
theorem dX12_putBlock_64 : decode cX12_putBlock 64 = .ok (.if_icmp .ge 59, 3) := by decide +kernel
theorem dX12_putBlock_67 : decode cX12_putBlock 67 = .ok (.iload 4, 2) := by decide +kernel
theorem dX12_putBlock_69 : decode cX12_putBlock 69 = .ok (.iload_n 3, 1) := by decide +kernel
theorem dX12_putBlock_70 : decode cX12_putBlock 70 = .ok (.isub, 1) := by decide +kernel
theorem dX12_putBlock_71 : decode cX12_putBlock 71 = .ok (.istore 5, 2) := by decide +kernel
theorem dX12_putBlock_73 : decode cX12_putBlock 73 = .ok (.iload 5, 2) := by decide +kernel
theorem dX12_putBlock_75 : decode cX12_putBlock 75 = .ok (.ifCond .lt 42, 3) := by decide +kernel
theorem dX12_putBlock_78 : decode cX12_putBlock 78 = .ok (.aload_n 0, 1) := by decide +kernel
theorem dX12_putBlock_79 : decode cX12_putBlock 79 = .ok (.getfield 126, 3) := by decide +kernel
theorem dX12_putBlock_82 : decode cX12_putBlock 82 = .ok (.ldc 241, 2) := by decide +kernel
theorem dX12_putBlock_84 : decode cX12_putBlock 84 = .ok (.iload_n 1, 1) := by decide +kernel
theorem dX12_putBlock_85 : decode cX12_putBlock 85 = .ok (.imul, 1) := by decide +kernel
theorem dX12_putBlock_86 : decode cX12_putBlock 86 = .ok (.sipush 512, 3) := by decide +kernel
theorem dX12_putBlock_89 : decode cX12_putBlock 89 = .ok (.iload_n 2, 1) := by decide +kernel
theorem dX12_putBlock_90 : decode cX12_putBlock 90 = .ok (.imul, 1) := by decide +kernel
theorem dX12_putBlock_91 : decode cX12_putBlock 91 = .ok (.iadd, 1) := by decide +kernel
theorem dX12_putBlock_92 : decode cX12_putBlock 92 = .ok (.iload 4, 2) := by decide +kernel
theorem dX12_putBlock_94 : decode cX12_putBlock 94 = .ok (.iadd, 1) := by decide +kernel
theorem dX12_putBlock_95 : decode cX12_putBlock 95 = .ok (.iload 5, 2) := by decide +kernel
theorem dX12_putBlock_97 : decode cX12_putBlock 97 = .ok (.aload_n 0, 1) := by decide +kernel
theorem dX12_putBlock_98 : decode cX12_putBlock 98 = .ok (.getfield 218, 3) := by decide +kernel
theorem dX12_putBlock_101 : decode cX12_putBlock 101 = .ok (.if_icmp .ge 13, 3) := by decide +kernel
theorem dX12_putBlock_104 : decode cX12_putBlock 104 = .ok (.aload_n 0, 1) := by decide +kernel
theorem dX12_putBlock_105 : decode cX12_putBlock 105 = .ok (.getfield 133, 3) := by decide +kernel
theorem dX12_putBlock_108 : decode cX12_putBlock 108 = .ok (.iload 5, 2) := by decide +kernel
theorem dX12_putBlock_110 : decode cX12_putBlock 110 = .ok (.iaload, 1) := by decide +kernel
theorem dX12_putBlock_111 : decode cX12_putBlock 111 = .ok (.goto 4, 3) := by decide +kernel
theorem dX12_putBlock_114 : decode cX12_putBlock 114 = .ok (.iconst 0, 1) := by decide +kernel
theorem dX12_putBlock_115 : decode cX12_putBlock 115 = .ok (.i2b, 1) := by decide +kernel
theorem dX12_putBlock_116 : decode cX12_putBlock 116 = .ok (.bastore, 1) := by decide +kernel
theorem dX12_putBlock_117 : decode cX12_putBlock 117 = .ok (.iinc 4 1, 3) := by decide +kernel
theorem dX12_putBlock_120 : decode cX12_putBlock 120 = .ok (.goto (-61), 3) := by decide +kernel
theorem dX12_putBlock_123 : decode cX12_putBlock 123 = .ok (.iconst 1, 1) := by decide +kernel
theorem dX12_putBlock_124 : decode cX12_putBlock 124 = .ok (.ireturn, 1) := by decide +kernel
theorem dX12_firstBlock_0 : decode cX12_firstBlock 0 = .ok (.iload_n 0, 1) := by decide +kernel
theorem dX12_firstBlock_1 : decode cX12_firstBlock 1 = .ok (.ifCond .ne 7, 3) := by decide +kernel
theorem dX12_firstBlock_4 : decode cX12_firstBlock 4 = .ok (.iconst 2, 1) := by decide +kernel
theorem dX12_firstBlock_5 : decode cX12_firstBlock 5 = .ok (.goto 5, 3) := by decide +kernel
theorem dX12_firstBlock_8 : decode cX12_firstBlock 8 = .ok (.bipush 33, 2) := by decide +kernel
theorem dX12_firstBlock_10 : decode cX12_firstBlock 10 = .ok (.ireturn, 1) := by decide +kernel
theorem dX12_note_0 : decode cX12_note 0 = .ok (.aload_n 0, 1) := by decide +kernel
theorem dX12_note_1 : decode cX12_note 1 = .ok (.iconst 0, 1) := by decide +kernel
theorem dX12_note_2 : decode cX12_note 2 = .ok (.invokevirtual 242, 3) := by decide +kernel
theorem dX12_note_5 : decode cX12_note 5 = .ok (.aload_n 0, 1) := by decide +kernel
theorem dX12_note_6 : decode cX12_note 6 = .ok (.getfield 110, 3) := by decide +kernel
theorem dX12_note_9 : decode cX12_note 9 = .ok (.iload_n 1, 1) := by decide +kernel
theorem dX12_note_10 : decode cX12_note 10 = .ok (.iaload, 1) := by decide +kernel
theorem dX12_note_11 : decode cX12_note 11 = .ok (.istore 6, 2) := by decide +kernel
theorem dX12_note_13 : decode cX12_note 13 = .ok (.aload_n 0, 1) := by decide +kernel
theorem dX12_note_14 : decode cX12_note 14 = .ok (.getfield 218, 3) := by decide +kernel
theorem dX12_note_17 : decode cX12_note 17 = .ok (.istore 7, 2) := by decide +kernel
theorem dX12_note_19 : decode cX12_note 19 = .ok (.iload 6, 2) := by decide +kernel
theorem dX12_note_21 : decode cX12_note 21 = .ok (.sipush 512, 3) := by decide +kernel
theorem dX12_note_24 : decode cX12_note 24 = .ok (.idiv, 1) := by decide +kernel
theorem dX12_note_25 : decode cX12_note 25 = .ok (.istore 8, 2) := by decide +kernel
theorem dX12_note_27 : decode cX12_note 27 = .ok (.iload 6, 2) := by decide +kernel
theorem dX12_note_29 : decode cX12_note 29 = .ok (.iload 7, 2) := by decide +kernel
theorem dX12_note_31 : decode cX12_note 31 = .ok (.iadd, 1) := by decide +kernel
theorem dX12_note_32 : decode cX12_note 32 = .ok (.iconst 1, 1) := by decide +kernel
theorem dX12_note_33 : decode cX12_note 33 = .ok (.iadd, 1) := by decide +kernel
theorem dX12_note_34 : decode cX12_note 34 = .ok (.sipush 512, 3) := by decide +kernel
theorem dX12_note_37 : decode cX12_note 37 = .ok (.idiv, 1) := by decide +kernel
theorem dX12_note_38 : decode cX12_note 38 = .ok (.istore 9, 2) := by decide +kernel
theorem dX12_note_40 : decode cX12_note 40 = .ok (.iload 9, 2) := by decide +kernel
theorem dX12_note_42 : decode cX12_note 42 = .ok (.istore 10, 2) := by decide +kernel
theorem dX12_note_44 : decode cX12_note 44 = .ok (.iload 10, 2) := by decide +kernel
theorem dX12_note_46 : decode cX12_note 46 = .ok (.iload 8, 2) := by decide +kernel
theorem dX12_note_48 : decode cX12_note 48 = .ok (.if_icmp .lt 40, 3) := by decide +kernel
theorem dX12_note_51 : decode cX12_note 51 = .ok (.aload_n 0, 1) := by decide +kernel
theorem dX12_note_52 : decode cX12_note 52 = .ok (.iload_n 1, 1) := by decide +kernel
theorem dX12_note_53 : decode cX12_note 53 = .ok (.aload_n 0, 1) := by decide +kernel
theorem dX12_note_54 : decode cX12_note 54 = .ok (.getfield 116, 3) := by decide +kernel
theorem dX12_note_57 : decode cX12_note 57 = .ok (.iload_n 1, 1) := by decide +kernel
theorem dX12_note_58 : decode cX12_note 58 = .ok (.iaload, 1) := by decide +kernel
theorem dX12_note_59 : decode cX12_note 59 = .ok (.invokestatic 245, 3) := by decide +kernel
theorem dX12_note_62 : decode cX12_note 62 = .ok (.iload 10, 2) := by decide +kernel
theorem dX12_note_64 : decode cX12_note 64 = .ok (.iadd, 1) := by decide +kernel
theorem dX12_note_65 : decode cX12_note 65 = .ok (.iload 6, 2) := by decide +kernel
theorem dX12_note_67 : decode cX12_note 67 = .ok (.sipush 512, 3) := by decide +kernel
theorem dX12_note_70 : decode cX12_note 70 = .ok (.iload 10, 2) := by decide +kernel
theorem dX12_note_72 : decode cX12_note 72 = .ok (.imul, 1) := by decide +kernel
theorem dX12_note_73 : decode cX12_note 73 = .ok (.isub, 1) := by decide +kernel
theorem dX12_note_74 : decode cX12_note 74 = .ok (.invokevirtual 200, 3) := by decide +kernel
theorem dX12_note_77 : decode cX12_note 77 = .ok (.ifCond .ne 5, 3) := by decide +kernel
theorem dX12_note_80 : decode cX12_note 80 = .ok (.iconst 0, 1) := by decide +kernel
theorem dX12_note_81 : decode cX12_note 81 = .ok (.ireturn, 1) := by decide +kernel
theorem dX12_note_82 : decode cX12_note 82 = .ok (.iinc 10 (-1), 3) := by decide +kernel
theorem dX12_note_85 : decode cX12_note 85 = .ok (.goto (-41), 3) := by decide +kernel
theorem dX12_note_88 : decode cX12_note 88 = .ok (.aload_n 0, 1) := by decide +kernel
theorem dX12_note_89 : decode cX12_note 89 = .ok (.getfield 110, 3) := by decide +kernel
theorem dX12_note_92 : decode cX12_note 92 = .ok (.iload_n 1, 1) := by decide +kernel
theorem dX12_note_93 : decode cX12_note 93 = .ok (.dup2, 1) := by decide +kernel
theorem dX12_note_94 : decode cX12_note 94 = .ok (.iaload, 1) := by decide +kernel
theorem dX12_note_95 : decode cX12_note 95 = .ok (.iload 7, 2) := by decide +kernel
theorem dX12_note_97 : decode cX12_note 97 = .ok (.iadd, 1) := by decide +kernel
theorem dX12_note_98 : decode cX12_note 98 = .ok (.iastore, 1) := by decide +kernel
theorem dX12_note_99 : decode cX12_note 99 = .ok (.aload_n 0, 1) := by decide +kernel
theorem dX12_note_100 : decode cX12_note 100 = .ok (.iload_n 1, 1) := by decide +kernel
theorem dX12_note_101 : decode cX12_note 101 = .ok (.iload_n 2, 1) := by decide +kernel
theorem dX12_note_102 : decode cX12_note 102 = .ok (.iload_n 3, 1) := by decide +kernel
theorem dX12_note_103 : decode cX12_note 103 = .ok (.iload 4, 2) := by decide +kernel
theorem dX12_note_105 : decode cX12_note 105 = .ok (.iload 5, 2) := by decide +kernel
theorem dX12_note_107 : decode cX12_note 107 = .ok (.invokevirtual 249, 3) := by decide +kernel
theorem dX12_note_110 : decode cX12_note 110 = .ok (.iconst 1, 1) := by decide +kernel
theorem dX12_note_111 : decode cX12_note 111 = .ok (.ireturn, 1) := by decide +kernel
theorem dX12_addNote_0 : decode cX12_addNote 0 = .ok (.bipush 64, 2) := by decide +kernel
theorem dX12_addNote_2 : decode cX12_addNote 2 = .ok (.iload_n 1, 1) := by decide +kernel
theorem dX12_addNote_3 : decode cX12_addNote 3 = .ok (.imul, 1) := by decide +kernel
theorem dX12_addNote_4 : decode cX12_addNote 4 = .ok (.aload_n 0, 1) := by decide +kernel
theorem dX12_addNote_5 : decode cX12_addNote 5 = .ok (.getfield 107, 3) := by decide +kernel
theorem dX12_addNote_8 : decode cX12_addNote 8 = .ok (.iload_n 1, 1) := by decide +kernel
theorem dX12_addNote_9 : decode cX12_addNote 9 = .ok (.iaload, 1) := by decide +kernel
theorem dX12_addNote_10 : decode cX12_addNote 10 = .ok (.iadd, 1) := by decide +kernel
theorem dX12_addNote_11 : decode cX12_addNote 11 = .ok (.istore 6, 2) := by decide +kernel
theorem dX12_addNote_13 : decode cX12_addNote 13 = .ok (.aload_n 0, 1) := by decide +kernel
theorem dX12_addNote_14 : decode cX12_addNote 14 = .ok (.getfield 100, 3) := by decide +kernel
theorem dX12_addNote_17 : decode cX12_addNote 17 = .ok (.iconst 4, 1) := by decide +kernel
theorem dX12_addNote_18 : decode cX12_addNote 18 = .ok (.iload 6, 2) := by decide +kernel
theorem dX12_addNote_20 : decode cX12_addNote 20 = .ok (.imul, 1) := by decide +kernel
theorem dX12_addNote_21 : decode cX12_addNote 21 = .ok (.iload_n 2, 1) := by decide +kernel
theorem dX12_addNote_22 : decode cX12_addNote 22 = .ok (.iastore, 1) := by decide +kernel
theorem dX12_addNote_23 : decode cX12_addNote 23 = .ok (.aload_n 0, 1) := by decide +kernel
theorem dX12_addNote_24 : decode cX12_addNote 24 = .ok (.getfield 100, 3) := by decide +kernel
theorem dX12_addNote_27 : decode cX12_addNote 27 = .ok (.iconst 4, 1) := by decide +kernel
theorem dX12_addNote_28 : decode cX12_addNote 28 = .ok (.iload 6, 2) := by decide +kernel
theorem dX12_addNote_30 : decode cX12_addNote 30 = .ok (.imul, 1) := by decide +kernel
theorem dX12_addNote_31 : decode cX12_addNote 31 = .ok (.iconst 1, 1) := by decide +kernel
theorem dX12_addNote_32 : decode cX12_addNote 32 = .ok (.iadd, 1) := by decide +kernel
theorem dX12_addNote_33 : decode cX12_addNote 33 = .ok (.iload_n 3, 1) := by decide +kernel
theorem dX12_addNote_34 : decode cX12_addNote 34 = .ok (.iastore, 1) := by decide +kernel
theorem dX12_addNote_35 : decode cX12_addNote 35 = .ok (.aload_n 0, 1) := by decide +kernel
theorem dX12_addNote_36 : decode cX12_addNote 36 = .ok (.getfield 100, 3) := by decide +kernel
theorem dX12_addNote_39 : decode cX12_addNote 39 = .ok (.iconst 4, 1) := by decide +kernel
theorem dX12_addNote_40 : decode cX12_addNote 40 = .ok (.iload 6, 2) := by decide +kernel
theorem dX12_addNote_42 : decode cX12_addNote 42 = .ok (.imul, 1) := by decide +kernel
theorem dX12_addNote_43 : decode cX12_addNote 43 = .ok (.iconst 2, 1) := by decide +kernel
theorem dX12_addNote_44 : decode cX12_addNote 44 = .ok (.iadd, 1) := by decide +kernel
theorem dX12_addNote_45 : decode cX12_addNote 45 = .ok (.iload 4, 2) := by decide +kernel
theorem dX12_addNote_47 : decode cX12_addNote 47 = .ok (.iastore, 1) := by decide +kernel
theorem dX12_addNote_48 : decode cX12_addNote 48 = .ok (.aload_n 0, 1) := by decide +kernel
theorem dX12_addNote_49 : decode cX12_addNote 49 = .ok (.getfield 100, 3) := by decide +kernel
theorem dX12_addNote_52 : decode cX12_addNote 52 = .ok (.iconst 4, 1) := by decide +kernel
theorem dX12_addNote_53 : decode cX12_addNote 53 = .ok (.iload 6, 2) := by decide +kernel
theorem dX12_addNote_55 : decode cX12_addNote 55 = .ok (.imul, 1) := by decide +kernel
theorem dX12_addNote_56 : decode cX12_addNote 56 = .ok (.iconst 3, 1) := by decide +kernel
theorem dX12_addNote_57 : decode cX12_addNote 57 = .ok (.iadd, 1) := by decide +kernel
theorem dX12_addNote_58 : decode cX12_addNote 58 = .ok (.iload 5, 2) := by decide +kernel
theorem dX12_addNote_60 : decode cX12_addNote 60 = .ok (.iastore, 1) := by decide +kernel
theorem dX12_addNote_61 : decode cX12_addNote 61 = .ok (.aload_n 0, 1) := by decide +kernel
theorem dX12_addNote_62 : decode cX12_addNote 62 = .ok (.getfield 107, 3) := by decide +kernel
theorem dX12_addNote_65 : decode cX12_addNote 65 = .ok (.iload_n 1, 1) := by decide +kernel
theorem dX12_addNote_66 : decode cX12_addNote 66 = .ok (.dup2, 1) := by decide +kernel
theorem dX12_addNote_67 : decode cX12_addNote 67 = .ok (.iaload, 1) := by decide +kernel
theorem dX12_addNote_68 : decode cX12_addNote 68 = .ok (.iconst 1, 1) := by decide +kernel
theorem dX12_addNote_69 : decode cX12_addNote 69 = .ok (.iadd, 1) := by decide +kernel
theorem dX12_addNote_70 : decode cX12_addNote 70 = .ok (.iastore, 1) := by decide +kernel
theorem dX12_addNote_71 : decode cX12_addNote 71 = .ok (.return_, 1) := by decide +kernel
theorem dX12_notePromise_0 : decode cX12_notePromise 0 = .ok (.aload_n 0, 1) := by decide +kernel
theorem dX12_notePromise_1 : decode cX12_notePromise 1 = .ok (.iconst 0, 1) := by decide +kernel
theorem dX12_notePromise_2 : decode cX12_notePromise 2 = .ok (.putfield 218, 3) := by decide +kernel
theorem dX12_notePromise_5 : decode cX12_notePromise 5 = .ok (.aload_n 0, 1) := by decide +kernel
theorem dX12_notePromise_6 : decode cX12_notePromise 6 = .ok (.iconst 1, 1) := by decide +kernel
theorem dX12_notePromise_7 : decode cX12_notePromise 7 = .ok (.invokevirtual 221, 3) := by decide +kernel
theorem dX12_notePromise_10 : decode cX12_notePromise 10 = .ok (.aload_n 0, 1) := by decide +kernel
theorem dX12_notePromise_11 : decode cX12_notePromise 11 = .ok (.iload_n 2, 1) := by decide +kernel
theorem dX12_notePromise_12 : decode cX12_notePromise 12 = .ok (.invokevirtual 228, 3) := by decide +kernel
theorem dX12_notePromise_15 : decode cX12_notePromise 15 = .ok (.aload_n 0, 1) := by decide +kernel
theorem dX12_notePromise_16 : decode cX12_notePromise 16 = .ok (.iload_n 1, 1) := by decide +kernel
theorem dX12_notePromise_17 : decode cX12_notePromise 17 = .ok (.iconst 1, 1) := by decide +kernel
theorem dX12_notePromise_18 : decode cX12_notePromise 18 = .ok (.iload_n 2, 1) := by decide +kernel
theorem dX12_notePromise_19 : decode cX12_notePromise 19 = .ok (.iconst 0, 1) := by decide +kernel
theorem dX12_notePromise_20 : decode cX12_notePromise 20 = .ok (.iconst 0, 1) := by decide +kernel
theorem dX12_notePromise_21 : decode cX12_notePromise 21 = .ok (.invokevirtual 253, 3) := by decide +kernel
theorem dX12_notePromise_24 : decode cX12_notePromise 24 = .ok (.ireturn, 1) := by decide +kernel
theorem dX12_layAccepted_0 : decode cX12_layAccepted 0 = .ok (.aload_n 0, 1) := by decide +kernel
theorem dX12_layAccepted_1 : decode cX12_layAccepted 1 = .ok (.iconst 2, 1) := by decide +kernel
theorem dX12_layAccepted_2 : decode cX12_layAccepted 2 = .ok (.invokevirtual 221, 3) := by decide +kernel
theorem dX12_layAccepted_5 : decode cX12_layAccepted 5 = .ok (.aload_n 0, 1) := by decide +kernel
theorem dX12_layAccepted_6 : decode cX12_layAccepted 6 = .ok (.iload_n 1, 1) := by decide +kernel
theorem dX12_layAccepted_7 : decode cX12_layAccepted 7 = .ok (.invokevirtual 228, 3) := by decide +kernel
theorem dX12_layAccepted_10 : decode cX12_layAccepted 10 = .ok (.aload_n 0, 1) := by decide +kernel
theorem dX12_layAccepted_11 : decode cX12_layAccepted 11 = .ok (.iload_n 2, 1) := by decide +kernel
theorem dX12_layAccepted_12 : decode cX12_layAccepted 12 = .ok (.invokevirtual 228, 3) := by decide +kernel
theorem dX12_layAccepted_15 : decode cX12_layAccepted 15 = .ok (.aload_n 0, 1) := by decide +kernel
theorem dX12_layAccepted_16 : decode cX12_layAccepted 16 = .ok (.iload_n 3, 1) := by decide +kernel
theorem dX12_layAccepted_17 : decode cX12_layAccepted 17 = .ok (.invokevirtual 257, 3) := by decide +kernel
theorem dX12_layAccepted_20 : decode cX12_layAccepted 20 = .ok (.return_, 1) := by decide +kernel
theorem dX12_checkpoint_0 : decode cX12_checkpoint 0 = .ok (.aload_n 0, 1) := by decide +kernel
theorem dX12_checkpoint_1 : decode cX12_checkpoint 1 = .ok (.getfield 107, 3) := by decide +kernel
theorem dX12_checkpoint_4 : decode cX12_checkpoint 4 = .ok (.iload_n 1, 1) := by decide +kernel
theorem dX12_checkpoint_5 : decode cX12_checkpoint 5 = .ok (.iaload, 1) := by decide +kernel
theorem dX12_checkpoint_6 : decode cX12_checkpoint 6 = .ok (.bipush 48, 2) := by decide +kernel
theorem dX12_checkpoint_8 : decode cX12_checkpoint 8 = .ok (.if_icmp .ge 5, 3) := by decide +kernel
theorem dX12_checkpoint_11 : decode cX12_checkpoint 11 = .ok (.iconst 1, 1) := by decide +kernel
theorem dX12_checkpoint_12 : decode cX12_checkpoint 12 = .ok (.ireturn, 1) := by decide +kernel
theorem dX12_checkpoint_13 : decode cX12_checkpoint 13 = .ok (.iconst 1, 1) := by decide +kernel
theorem dX12_checkpoint_14 : decode cX12_checkpoint 14 = .ok (.aload_n 0, 1) := by decide +kernel
theorem dX12_checkpoint_15 : decode cX12_checkpoint 15 = .ok (.getfield 116, 3) := by decide +kernel
theorem dX12_checkpoint_18 : decode cX12_checkpoint 18 = .ok (.iload_n 1, 1) := by decide +kernel
theorem dX12_checkpoint_19 : decode cX12_checkpoint 19 = .ok (.iaload, 1) := by decide +kernel
theorem dX12_checkpoint_20 : decode cX12_checkpoint 20 = .ok (.isub, 1) := by decide +kernel
theorem dX12_checkpoint_21 : decode cX12_checkpoint 21 = .ok (.istore_n 2, 1) := by decide +kernel
theorem dX12_checkpoint_22 : decode cX12_checkpoint 22 = .ok (.aload_n 0, 1) := by decide +kernel
theorem dX12_checkpoint_23 : decode cX12_checkpoint 23 = .ok (.iload_n 1, 1) := by decide +kernel
theorem dX12_checkpoint_24 : decode cX12_checkpoint 24 = .ok (.aload_n 0, 1) := by decide +kernel
theorem dX12_checkpoint_25 : decode cX12_checkpoint 25 = .ok (.getfield 130, 3) := by decide +kernel
theorem dX12_checkpoint_28 : decode cX12_checkpoint 28 = .ok (.iconst 0, 1) := by decide +kernel
theorem dX12_checkpoint_29 : decode cX12_checkpoint 29 = .ok (.invokevirtual 260, 3) := by decide +kernel
theorem dX12_checkpoint_32 : decode cX12_checkpoint 32 = .ok (.aload_n 0, 1) := by decide +kernel
theorem dX12_checkpoint_33 : decode cX12_checkpoint 33 = .ok (.iconst 0, 1) := by decide +kernel
theorem dX12_checkpoint_34 : decode cX12_checkpoint 34 = .ok (.putfield 218, 3) := by decide +kernel
theorem dX12_checkpoint_37 : decode cX12_checkpoint 37 = .ok (.aload_n 0, 1) := by decide +kernel
theorem dX12_checkpoint_38 : decode cX12_checkpoint 38 = .ok (.iconst 4, 1) := by decide +kernel
theorem dX12_checkpoint_39 : decode cX12_checkpoint 39 = .ok (.invokevirtual 221, 3) := by decide +kernel
theorem dX12_checkpoint_42 : decode cX12_checkpoint 42 = .ok (.aload_n 0, 1) := by decide +kernel
theorem dX12_checkpoint_43 : decode cX12_checkpoint 43 = .ok (.aload_n 0, 1) := by decide +kernel
theorem dX12_checkpoint_44 : decode cX12_checkpoint 44 = .ok (.getfield 130, 3) := by decide +kernel
theorem dX12_checkpoint_47 : decode cX12_checkpoint 47 = .ok (.iconst 0, 1) := by decide +kernel
theorem dX12_checkpoint_48 : decode cX12_checkpoint 48 = .ok (.invokevirtual 264, 3) := by decide +kernel
theorem dX12_checkpoint_51 : decode cX12_checkpoint 51 = .ok (.aload_n 0, 1) := by decide +kernel
theorem dX12_checkpoint_52 : decode cX12_checkpoint 52 = .ok (.iconst 0, 1) := by decide +kernel
theorem dX12_checkpoint_53 : decode cX12_checkpoint 53 = .ok (.invokevirtual 242, 3) := by decide +kernel
theorem dX12_checkpoint_56 : decode cX12_checkpoint 56 = .ok (.aload_n 0, 1) := by decide +kernel
theorem dX12_checkpoint_57 : decode cX12_checkpoint 57 = .ok (.getfield 37, 3) := by decide +kernel
theorem dX12_checkpoint_60 : decode cX12_checkpoint 60 = .ok (.iload_n 1, 1) := by decide +kernel
theorem dX12_checkpoint_61 : decode cX12_checkpoint 61 = .ok (.iaload, 1) := by decide +kernel
theorem dX12_checkpoint_62 : decode cX12_checkpoint 62 = .ok (.iconst 1, 1) := by decide +kernel
theorem dX12_checkpoint_63 : decode cX12_checkpoint 63 = .ok (.isub, 1) := by decide +kernel
theorem dX12_checkpoint_64 : decode cX12_checkpoint 64 = .ok (.istore_n 3, 1) := by decide +kernel
theorem dX12_checkpoint_65 : decode cX12_checkpoint 65 = .ok (.iload_n 3, 1) := by decide +kernel
theorem dX12_checkpoint_66 : decode cX12_checkpoint 66 = .ok (.aload_n 0, 1) := by decide +kernel
theorem dX12_checkpoint_67 : decode cX12_checkpoint 67 = .ok (.getfield 40, 3) := by decide +kernel
theorem dX12_checkpoint_70 : decode cX12_checkpoint 70 = .ok (.iload_n 1, 1) := by decide +kernel
theorem dX12_checkpoint_71 : decode cX12_checkpoint 71 = .ok (.iaload, 1) := by decide +kernel
theorem dX12_checkpoint_72 : decode cX12_checkpoint 72 = .ok (.if_icmp .lt 62, 3) := by decide +kernel
theorem dX12_checkpoint_75 : decode cX12_checkpoint 75 = .ok (.aload_n 0, 1) := by decide +kernel
theorem dX12_checkpoint_76 : decode cX12_checkpoint 76 = .ok (.getfield 218, 3) := by decide +kernel
theorem dX12_checkpoint_79 : decode cX12_checkpoint 79 = .ok (.istore 4, 2) := by decide +kernel
theorem dX12_checkpoint_81 : decode cX12_checkpoint 81 = .ok (.aload_n 0, 1) := by decide +kernel
theorem dX12_checkpoint_82 : decode cX12_checkpoint 82 = .ok (.iconst 5, 1) := by decide +kernel
theorem dX12_checkpoint_83 : decode cX12_checkpoint 83 = .ok (.invokevirtual 221, 3) := by decide +kernel
theorem dX12_checkpoint_86 : decode cX12_checkpoint 86 = .ok (.iconst 0, 1) := by decide +kernel
theorem dX12_checkpoint_87 : decode cX12_checkpoint 87 = .ok (.istore 5, 2) := by decide +kernel
theorem dX12_checkpoint_89 : decode cX12_checkpoint 89 = .ok (.iload 5, 2) := by decide +kernel
theorem dX12_checkpoint_91 : decode cX12_checkpoint 91 = .ok (.bipush 16, 2) := by decide +kernel
theorem dX12_checkpoint_93 : decode cX12_checkpoint 93 = .ok (.if_icmp .ge 29, 3) := by decide +kernel
theorem dX12_checkpoint_96 : decode cX12_checkpoint 96 = .ok (.aload_n 0, 1) := by decide +kernel
theorem dX12_checkpoint_97 : decode cX12_checkpoint 97 = .ok (.aload_n 0, 1) := by decide +kernel
theorem dX12_checkpoint_98 : decode cX12_checkpoint 98 = .ok (.getfield 58, 3) := by decide +kernel
theorem dX12_checkpoint_101 : decode cX12_checkpoint 101 = .ok (.bipush 16, 2) := by decide +kernel
theorem dX12_checkpoint_103 : decode cX12_checkpoint 103 = .ok (.iload_n 1, 1) := by decide +kernel
theorem dX12_checkpoint_104 : decode cX12_checkpoint 104 = .ok (.iload_n 3, 1) := by decide +kernel
theorem dX12_checkpoint_105 : decode cX12_checkpoint 105 = .ok (.invokestatic 211, 3) := by decide +kernel
theorem dX12_checkpoint_108 : decode cX12_checkpoint 108 = .ok (.imul, 1) := by decide +kernel
theorem dX12_checkpoint_109 : decode cX12_checkpoint 109 = .ok (.iload 5, 2) := by decide +kernel
theorem dX12_checkpoint_111 : decode cX12_checkpoint 111 = .ok (.iadd, 1) := by decide +kernel
theorem dX12_checkpoint_112 : decode cX12_checkpoint 112 = .ok (.iaload, 1) := by decide +kernel
theorem dX12_checkpoint_113 : decode cX12_checkpoint 113 = .ok (.invokevirtual 231, 3) := by decide +kernel
theorem dX12_checkpoint_116 : decode cX12_checkpoint 116 = .ok (.iinc 5 1, 3) := by decide +kernel
theorem dX12_checkpoint_119 : decode cX12_checkpoint 119 = .ok (.goto (-30), 3) := by decide +kernel
theorem dX12_checkpoint_122 : decode cX12_checkpoint 122 = .ok (.aload_n 0, 1) := by decide +kernel
theorem dX12_checkpoint_123 : decode cX12_checkpoint 123 = .ok (.iload 4, 2) := by decide +kernel
theorem dX12_checkpoint_125 : decode cX12_checkpoint 125 = .ok (.invokevirtual 242, 3) := by decide +kernel
theorem dX12_checkpoint_128 : decode cX12_checkpoint 128 = .ok (.iinc 3 (-1), 3) := by decide +kernel
theorem dX12_checkpoint_131 : decode cX12_checkpoint 131 = .ok (.goto (-66), 3) := by decide +kernel
theorem dX12_checkpoint_134 : decode cX12_checkpoint 134 = .ok (.aload_n 0, 1) := by decide +kernel
theorem dX12_checkpoint_135 : decode cX12_checkpoint 135 = .ok (.getfield 218, 3) := by decide +kernel
theorem dX12_checkpoint_138 : decode cX12_checkpoint 138 = .ok (.istore_n 3, 1) := by decide +kernel
theorem dX12_checkpoint_139 : decode cX12_checkpoint 139 = .ok (.aload_n 0, 1) := by decide +kernel
theorem dX12_checkpoint_140 : decode cX12_checkpoint 140 = .ok (.getfield 52, 3) := by decide +kernel
theorem dX12_checkpoint_143 : decode cX12_checkpoint 143 = .ok (.iload_n 1, 1) := by decide +kernel
theorem dX12_checkpoint_144 : decode cX12_checkpoint 144 = .ok (.iaload, 1) := by decide +kernel
theorem dX12_checkpoint_145 : decode cX12_checkpoint 145 = .ok (.ifCond .le 32, 3) := by decide +kernel
theorem dX12_checkpoint_148 : decode cX12_checkpoint 148 = .ok (.aload_n 0, 1) := by decide +kernel
theorem dX12_checkpoint_149 : decode cX12_checkpoint 149 = .ok (.aload_n 0, 1) := by decide +kernel
theorem dX12_checkpoint_150 : decode cX12_checkpoint 150 = .ok (.getfield 49, 3) := by decide +kernel
theorem dX12_checkpoint_153 : decode cX12_checkpoint 153 = .ok (.iload_n 1, 1) := by decide +kernel
theorem dX12_checkpoint_154 : decode cX12_checkpoint 154 = .ok (.iaload, 1) := by decide +kernel
theorem dX12_checkpoint_155 : decode cX12_checkpoint 155 = .ok (.aload_n 0, 1) := by decide +kernel
theorem dX12_checkpoint_156 : decode cX12_checkpoint 156 = .ok (.getfield 37, 3) := by decide +kernel
theorem dX12_checkpoint_159 : decode cX12_checkpoint 159 = .ok (.iload_n 1, 1) := by decide +kernel
theorem dX12_checkpoint_160 : decode cX12_checkpoint 160 = .ok (.iaload, 1) := by decide +kernel
theorem dX12_checkpoint_161 : decode cX12_checkpoint 161 = .ok (.iconst 1, 1) := by decide +kernel
theorem dX12_checkpoint_162 : decode cX12_checkpoint 162 = .ok (.iadd, 1) := by decide +kernel
theorem dX12_checkpoint_163 : decode cX12_checkpoint 163 = .ok (.aload_n 0, 1) := by decide +kernel
theorem dX12_checkpoint_164 : decode cX12_checkpoint 164 = .ok (.getfield 52, 3) := by decide +kernel
theorem dX12_checkpoint_167 : decode cX12_checkpoint 167 = .ok (.iload_n 1, 1) := by decide +kernel
theorem dX12_checkpoint_168 : decode cX12_checkpoint 168 = .ok (.iaload, 1) := by decide +kernel
theorem dX12_checkpoint_169 : decode cX12_checkpoint 169 = .ok (.invokevirtual 268, 3) := by decide +kernel
theorem dX12_checkpoint_172 : decode cX12_checkpoint 172 = .ok (.aload_n 0, 1) := by decide +kernel
theorem dX12_checkpoint_173 : decode cX12_checkpoint 173 = .ok (.iload_n 3, 1) := by decide +kernel
theorem dX12_checkpoint_174 : decode cX12_checkpoint 174 = .ok (.invokevirtual 242, 3) := by decide +kernel
theorem dX12_checkpoint_177 : decode cX12_checkpoint 177 = .ok (.aload_n 0, 1) := by decide +kernel
theorem dX12_checkpoint_178 : decode cX12_checkpoint 178 = .ok (.getfield 218, 3) := by decide +kernel
theorem dX12_checkpoint_181 : decode cX12_checkpoint 181 = .ok (.istore_n 3, 1) := by decide +kernel
theorem dX12_checkpoint_182 : decode cX12_checkpoint 182 = .ok (.aload_n 0, 1) := by decide +kernel
theorem dX12_checkpoint_183 : decode cX12_checkpoint 183 = .ok (.iconst 1, 1) := by decide +kernel
theorem dX12_checkpoint_184 : decode cX12_checkpoint 184 = .ok (.invokevirtual 221, 3) := by decide +kernel
theorem dX12_checkpoint_187 : decode cX12_checkpoint 187 = .ok (.aload_n 0, 1) := by decide +kernel
theorem dX12_checkpoint_188 : decode cX12_checkpoint 188 = .ok (.aload_n 0, 1) := by decide +kernel
theorem dX12_checkpoint_189 : decode cX12_checkpoint 189 = .ok (.getfield 46, 3) := by decide +kernel
theorem dX12_checkpoint_192 : decode cX12_checkpoint 192 = .ok (.iload_n 1, 1) := by decide +kernel
theorem dX12_checkpoint_193 : decode cX12_checkpoint 193 = .ok (.iaload, 1) := by decide +kernel
theorem dX12_checkpoint_194 : decode cX12_checkpoint 194 = .ok (.invokevirtual 228, 3) := by decide +kernel
theorem dX12_checkpoint_197 : decode cX12_checkpoint 197 = .ok (.aload_n 0, 1) := by decide +kernel
theorem dX12_checkpoint_198 : decode cX12_checkpoint 198 = .ok (.iload_n 3, 1) := by decide +kernel
theorem dX12_checkpoint_199 : decode cX12_checkpoint 199 = .ok (.invokevirtual 242, 3) := by decide +kernel
theorem dX12_checkpoint_202 : decode cX12_checkpoint 202 = .ok (.aload_n 0, 1) := by decide +kernel
theorem dX12_checkpoint_203 : decode cX12_checkpoint 203 = .ok (.getfield 218, 3) := by decide +kernel
theorem dX12_checkpoint_206 : decode cX12_checkpoint 206 = .ok (.istore 4, 2) := by decide +kernel
theorem dX12_checkpoint_208 : decode cX12_checkpoint 208 = .ok (.iconst 0, 1) := by decide +kernel
theorem dX12_checkpoint_209 : decode cX12_checkpoint 209 = .ok (.istore 5, 2) := by decide +kernel
theorem dX12_checkpoint_211 : decode cX12_checkpoint 211 = .ok (.iload 5, 2) := by decide +kernel
theorem dX12_checkpoint_213 : decode cX12_checkpoint 213 = .ok (.iload 4, 2) := by decide +kernel
theorem dX12_checkpoint_215 : decode cX12_checkpoint 215 = .ok (.iconst 1, 1) := by decide +kernel
theorem dX12_checkpoint_216 : decode cX12_checkpoint 216 = .ok (.iadd, 1) := by decide +kernel
theorem dX12_checkpoint_217 : decode cX12_checkpoint 217 = .ok (.sipush 512, 3) := by decide +kernel
theorem dX12_checkpoint_220 : decode cX12_checkpoint 220 = .ok (.idiv, 1) := by decide +kernel
theorem dX12_checkpoint_221 : decode cX12_checkpoint 221 = .ok (.if_icmp .gt 32, 3) := by decide +kernel
theorem dX12_checkpoint_224 : decode cX12_checkpoint 224 = .ok (.aload_n 0, 1) := by decide +kernel
theorem dX12_checkpoint_225 : decode cX12_checkpoint 225 = .ok (.iload_n 1, 1) := by decide +kernel
theorem dX12_checkpoint_226 : decode cX12_checkpoint 226 = .ok (.iload_n 2, 1) := by decide +kernel
theorem dX12_checkpoint_227 : decode cX12_checkpoint 227 = .ok (.invokestatic 245, 3) := by decide +kernel
theorem dX12_checkpoint_230 : decode cX12_checkpoint 230 = .ok (.iload 5, 2) := by decide +kernel
theorem dX12_checkpoint_232 : decode cX12_checkpoint 232 = .ok (.iadd, 1) := by decide +kernel
theorem dX12_checkpoint_233 : decode cX12_checkpoint 233 = .ok (.sipush (-512), 3) := by decide +kernel
theorem dX12_checkpoint_236 : decode cX12_checkpoint 236 = .ok (.iload 5, 2) := by decide +kernel
theorem dX12_checkpoint_238 : decode cX12_checkpoint 238 = .ok (.imul, 1) := by decide +kernel
theorem dX12_checkpoint_239 : decode cX12_checkpoint 239 = .ok (.invokevirtual 200, 3) := by decide +kernel
theorem dX12_checkpoint_242 : decode cX12_checkpoint 242 = .ok (.ifCond .ne 5, 3) := by decide +kernel
theorem dX12_checkpoint_245 : decode cX12_checkpoint 245 = .ok (.iconst 0, 1) := by decide +kernel
theorem dX12_checkpoint_246 : decode cX12_checkpoint 246 = .ok (.ireturn, 1) := by decide +kernel
theorem dX12_checkpoint_247 : decode cX12_checkpoint 247 = .ok (.iinc 5 1, 3) := by decide +kernel
theorem dX12_checkpoint_250 : decode cX12_checkpoint 250 = .ok (.goto (-39), 3) := by decide +kernel
theorem dX12_checkpoint_253 : decode cX12_checkpoint 253 = .ok (.aload_n 0, 1) := by decide +kernel
theorem dX12_checkpoint_254 : decode cX12_checkpoint 254 = .ok (.iload_n 2, 1) := by decide +kernel
theorem dX12_checkpoint_255 : decode cX12_checkpoint 255 = .ok (.aload_n 0, 1) := by decide +kernel
theorem dX12_checkpoint_256 : decode cX12_checkpoint 256 = .ok (.getfield 113, 3) := by decide +kernel
theorem dX12_checkpoint_259 : decode cX12_checkpoint 259 = .ok (.iload_n 1, 1) := by decide +kernel
theorem dX12_checkpoint_260 : decode cX12_checkpoint 260 = .ok (.iaload, 1) := by decide +kernel
theorem dX12_checkpoint_261 : decode cX12_checkpoint 261 = .ok (.iconst 1, 1) := by decide +kernel
theorem dX12_checkpoint_262 : decode cX12_checkpoint 262 = .ok (.iadd, 1) := by decide +kernel
theorem dX12_checkpoint_263 : decode cX12_checkpoint 263 = .ok (.invokevirtual 196, 3) := by decide +kernel
theorem dX12_checkpoint_266 : decode cX12_checkpoint 266 = .ok (.aload_n 0, 1) := by decide +kernel
theorem dX12_checkpoint_267 : decode cX12_checkpoint 267 = .ok (.iload_n 1, 1) := by decide +kernel
theorem dX12_checkpoint_268 : decode cX12_checkpoint 268 = .ok (.aload_n 0, 1) := by decide +kernel
theorem dX12_checkpoint_269 : decode cX12_checkpoint 269 = .ok (.getfield 113, 3) := by decide +kernel
theorem dX12_checkpoint_272 : decode cX12_checkpoint 272 = .ok (.iload_n 1, 1) := by decide +kernel
theorem dX12_checkpoint_273 : decode cX12_checkpoint 273 = .ok (.iaload, 1) := by decide +kernel
theorem dX12_checkpoint_274 : decode cX12_checkpoint 274 = .ok (.iconst 1, 1) := by decide +kernel
theorem dX12_checkpoint_275 : decode cX12_checkpoint 275 = .ok (.iadd, 1) := by decide +kernel
theorem dX12_checkpoint_276 : decode cX12_checkpoint 276 = .ok (.iconst 2, 1) := by decide +kernel
theorem dX12_checkpoint_277 : decode cX12_checkpoint 277 = .ok (.irem, 1) := by decide +kernel
theorem dX12_checkpoint_278 : decode cX12_checkpoint 278 = .ok (.iconst 0, 1) := by decide +kernel
theorem dX12_checkpoint_279 : decode cX12_checkpoint 279 = .ok (.invokevirtual 200, 3) := by decide +kernel
theorem dX12_checkpoint_282 : decode cX12_checkpoint 282 = .ok (.ifCond .ne 5, 3) := by decide +kernel
theorem dX12_checkpoint_285 : decode cX12_checkpoint 285 = .ok (.iconst 0, 1) := by decide +kernel
theorem dX12_checkpoint_286 : decode cX12_checkpoint 286 = .ok (.ireturn, 1) := by decide +kernel
theorem dX12_checkpoint_287 : decode cX12_checkpoint 287 = .ok (.aload_n 0, 1) := by decide +kernel
theorem dX12_checkpoint_288 : decode cX12_checkpoint 288 = .ok (.getfield 113, 3) := by decide +kernel
theorem dX12_checkpoint_291 : decode cX12_checkpoint 291 = .ok (.iload_n 1, 1) := by decide +kernel
theorem dX12_checkpoint_292 : decode cX12_checkpoint 292 = .ok (.dup2, 1) := by decide +kernel
theorem dX12_checkpoint_293 : decode cX12_checkpoint 293 = .ok (.iaload, 1) := by decide +kernel
theorem dX12_checkpoint_294 : decode cX12_checkpoint 294 = .ok (.iconst 1, 1) := by decide +kernel
theorem dX12_checkpoint_295 : decode cX12_checkpoint 295 = .ok (.iadd, 1) := by decide +kernel
theorem dX12_checkpoint_296 : decode cX12_checkpoint 296 = .ok (.iastore, 1) := by decide +kernel
theorem dX12_checkpoint_297 : decode cX12_checkpoint 297 = .ok (.aload_n 0, 1) := by decide +kernel
theorem dX12_checkpoint_298 : decode cX12_checkpoint 298 = .ok (.getfield 116, 3) := by decide +kernel
theorem dX12_checkpoint_301 : decode cX12_checkpoint 301 = .ok (.iload_n 1, 1) := by decide +kernel
theorem dX12_checkpoint_302 : decode cX12_checkpoint 302 = .ok (.iload_n 2, 1) := by decide +kernel
theorem dX12_checkpoint_303 : decode cX12_checkpoint 303 = .ok (.iastore, 1) := by decide +kernel
theorem dX12_checkpoint_304 : decode cX12_checkpoint 304 = .ok (.aload_n 0, 1) := by decide +kernel
theorem dX12_checkpoint_305 : decode cX12_checkpoint 305 = .ok (.getfield 110, 3) := by decide +kernel
theorem dX12_checkpoint_308 : decode cX12_checkpoint 308 = .ok (.iload_n 1, 1) := by decide +kernel
theorem dX12_checkpoint_309 : decode cX12_checkpoint 309 = .ok (.iload 4, 2) := by decide +kernel
theorem dX12_checkpoint_311 : decode cX12_checkpoint 311 = .ok (.iastore, 1) := by decide +kernel
theorem dX12_checkpoint_312 : decode cX12_checkpoint 312 = .ok (.aload_n 0, 1) := by decide +kernel
theorem dX12_checkpoint_313 : decode cX12_checkpoint 313 = .ok (.getfield 107, 3) := by decide +kernel
theorem dX12_checkpoint_316 : decode cX12_checkpoint 316 = .ok (.iload_n 1, 1) := by decide +kernel
theorem dX12_checkpoint_317 : decode cX12_checkpoint 317 = .ok (.iconst 0, 1) := by decide +kernel
theorem dX12_checkpoint_318 : decode cX12_checkpoint 318 = .ok (.iastore, 1) := by decide +kernel
theorem dX12_checkpoint_319 : decode cX12_checkpoint 319 = .ok (.iconst 0, 1) := by decide +kernel
theorem dX12_checkpoint_320 : decode cX12_checkpoint 320 = .ok (.istore 5, 2) := by decide +kernel
theorem dX12_checkpoint_322 : decode cX12_checkpoint 322 = .ok (.iload 5, 2) := by decide +kernel
theorem dX12_checkpoint_324 : decode cX12_checkpoint 324 = .ok (.bipush 100, 2) := by decide +kernel
theorem dX12_checkpoint_326 : decode cX12_checkpoint 326 = .ok (.if_icmp .ge 29, 3) := by decide +kernel
theorem dX12_checkpoint_329 : decode cX12_checkpoint 329 = .ok (.aload_n 0, 1) := by decide +kernel
theorem dX12_checkpoint_330 : decode cX12_checkpoint 330 = .ok (.getfield 104, 3) := by decide +kernel
theorem dX12_checkpoint_333 : decode cX12_checkpoint 333 = .ok (.sipush 6400, 3) := by decide +kernel
theorem dX12_checkpoint_336 : decode cX12_checkpoint 336 = .ok (.iload_n 1, 1) := by decide +kernel
theorem dX12_checkpoint_337 : decode cX12_checkpoint 337 = .ok (.imul, 1) := by decide +kernel
theorem dX12_checkpoint_338 : decode cX12_checkpoint 338 = .ok (.iload 5, 2) := by decide +kernel
theorem dX12_checkpoint_340 : decode cX12_checkpoint 340 = .ok (.iadd, 1) := by decide +kernel
theorem dX12_checkpoint_341 : decode cX12_checkpoint 341 = .ok (.aload_n 0, 1) := by decide +kernel
theorem dX12_checkpoint_342 : decode cX12_checkpoint 342 = .ok (.getfield 130, 3) := by decide +kernel
theorem dX12_checkpoint_345 : decode cX12_checkpoint 345 = .ok (.iload 5, 2) := by decide +kernel
theorem dX12_checkpoint_347 : decode cX12_checkpoint 347 = .ok (.iaload, 1) := by decide +kernel
theorem dX12_checkpoint_348 : decode cX12_checkpoint 348 = .ok (.iastore, 1) := by decide +kernel
theorem dX12_checkpoint_349 : decode cX12_checkpoint 349 = .ok (.iinc 5 1, 3) := by decide +kernel
theorem dX12_checkpoint_352 : decode cX12_checkpoint 352 = .ok (.goto (-30), 3) := by decide +kernel
theorem dX12_checkpoint_355 : decode cX12_checkpoint 355 = .ok (.aload_n 0, 1) := by decide +kernel
theorem dX12_checkpoint_356 : decode cX12_checkpoint 356 = .ok (.iload_n 1, 1) := by decide +kernel
theorem dX12_checkpoint_357 : decode cX12_checkpoint 357 = .ok (.iconst 4, 1) := by decide +kernel
theorem dX12_checkpoint_358 : decode cX12_checkpoint 358 = .ok (.iconst 0, 1) := by decide +kernel
theorem dX12_checkpoint_359 : decode cX12_checkpoint 359 = .ok (.iconst 0, 1) := by decide +kernel
theorem dX12_checkpoint_360 : decode cX12_checkpoint 360 = .ok (.iconst 0, 1) := by decide +kernel
theorem dX12_checkpoint_361 : decode cX12_checkpoint 361 = .ok (.invokevirtual 249, 3) := by decide +kernel
theorem dX12_checkpoint_364 : decode cX12_checkpoint 364 = .ok (.aload_n 0, 1) := by decide +kernel
theorem dX12_checkpoint_365 : decode cX12_checkpoint 365 = .ok (.getfield 37, 3) := by decide +kernel
theorem dX12_checkpoint_368 : decode cX12_checkpoint 368 = .ok (.iload_n 1, 1) := by decide +kernel
theorem dX12_checkpoint_369 : decode cX12_checkpoint 369 = .ok (.iaload, 1) := by decide +kernel
theorem dX12_checkpoint_370 : decode cX12_checkpoint 370 = .ok (.iconst 1, 1) := by decide +kernel
theorem dX12_checkpoint_371 : decode cX12_checkpoint 371 = .ok (.isub, 1) := by decide +kernel
theorem dX12_checkpoint_372 : decode cX12_checkpoint 372 = .ok (.istore 5, 2) := by decide +kernel
theorem dX12_checkpoint_374 : decode cX12_checkpoint 374 = .ok (.iload 5, 2) := by decide +kernel
theorem dX12_checkpoint_376 : decode cX12_checkpoint 376 = .ok (.aload_n 0, 1) := by decide +kernel
theorem dX12_checkpoint_377 : decode cX12_checkpoint 377 = .ok (.getfield 40, 3) := by decide +kernel
theorem dX12_checkpoint_380 : decode cX12_checkpoint 380 = .ok (.iload_n 1, 1) := by decide +kernel
theorem dX12_checkpoint_381 : decode cX12_checkpoint 381 = .ok (.iaload, 1) := by decide +kernel
theorem dX12_checkpoint_382 : decode cX12_checkpoint 382 = .ok (.if_icmp .lt 74, 3) := by decide +kernel
theorem dX12_checkpoint_385 : decode cX12_checkpoint 385 = .ok (.iconst 0, 1) := by decide +kernel
theorem dX12_checkpoint_386 : decode cX12_checkpoint 386 = .ok (.istore 6, 2) := by decide +kernel
theorem dX12_checkpoint_388 : decode cX12_checkpoint 388 = .ok (.iload 6, 2) := by decide +kernel
theorem dX12_checkpoint_390 : decode cX12_checkpoint 390 = .ok (.bipush 16, 2) := by decide +kernel
theorem dX12_checkpoint_392 : decode cX12_checkpoint 392 = .ok (.if_icmp .ge 49, 3) := by decide +kernel
theorem dX12_checkpoint_395 : decode cX12_checkpoint 395 = .ok (.aload_n 0, 1) := by decide +kernel
theorem dX12_checkpoint_396 : decode cX12_checkpoint 396 = .ok (.getfield 104, 3) := by decide +kernel
theorem dX12_checkpoint_399 : decode cX12_checkpoint 399 = .ok (.sipush 6400, 3) := by decide +kernel
theorem dX12_checkpoint_402 : decode cX12_checkpoint 402 = .ok (.iload_n 1, 1) := by decide +kernel
theorem dX12_checkpoint_403 : decode cX12_checkpoint 403 = .ok (.imul, 1) := by decide +kernel
theorem dX12_checkpoint_404 : decode cX12_checkpoint 404 = .ok (.bipush 100, 2) := by decide +kernel
theorem dX12_checkpoint_406 : decode cX12_checkpoint 406 = .ok (.aload_n 0, 1) := by decide +kernel
theorem dX12_checkpoint_407 : decode cX12_checkpoint 407 = .ok (.getfield 107, 3) := by decide +kernel
theorem dX12_checkpoint_410 : decode cX12_checkpoint 410 = .ok (.iload_n 1, 1) := by decide +kernel
theorem dX12_checkpoint_411 : decode cX12_checkpoint 411 = .ok (.iaload, 1) := by decide +kernel
theorem dX12_checkpoint_412 : decode cX12_checkpoint 412 = .ok (.imul, 1) := by decide +kernel
theorem dX12_checkpoint_413 : decode cX12_checkpoint 413 = .ok (.iadd, 1) := by decide +kernel
theorem dX12_checkpoint_414 : decode cX12_checkpoint 414 = .ok (.iload 6, 2) := by decide +kernel
theorem dX12_checkpoint_416 : decode cX12_checkpoint 416 = .ok (.iadd, 1) := by decide +kernel
theorem dX12_checkpoint_417 : decode cX12_checkpoint 417 = .ok (.aload_n 0, 1) := by decide +kernel
theorem dX12_checkpoint_418 : decode cX12_checkpoint 418 = .ok (.getfield 58, 3) := by decide +kernel
theorem dX12_checkpoint_421 : decode cX12_checkpoint 421 = .ok (.bipush 16, 2) := by decide +kernel
theorem dX12_checkpoint_423 : decode cX12_checkpoint 423 = .ok (.iload_n 1, 1) := by decide +kernel
theorem dX12_checkpoint_424 : decode cX12_checkpoint 424 = .ok (.iload 5, 2) := by decide +kernel
theorem dX12_checkpoint_426 : decode cX12_checkpoint 426 = .ok (.invokestatic 211, 3) := by decide +kernel
theorem dX12_checkpoint_429 : decode cX12_checkpoint 429 = .ok (.imul, 1) := by decide +kernel
theorem dX12_checkpoint_430 : decode cX12_checkpoint 430 = .ok (.iload 6, 2) := by decide +kernel
theorem dX12_checkpoint_432 : decode cX12_checkpoint 432 = .ok (.iadd, 1) := by decide +kernel
theorem dX12_checkpoint_433 : decode cX12_checkpoint 433 = .ok (.iaload, 1) := by decide +kernel
theorem dX12_checkpoint_434 : decode cX12_checkpoint 434 = .ok (.iastore, 1) := by decide +kernel
theorem dX12_checkpoint_435 : decode cX12_checkpoint 435 = .ok (.iinc 6 1, 3) := by decide +kernel
theorem dX12_checkpoint_438 : decode cX12_checkpoint 438 = .ok (.goto (-50), 3) := by decide +kernel
theorem dX12_checkpoint_441 : decode cX12_checkpoint 441 = .ok (.aload_n 0, 1) := by decide +kernel
theorem dX12_checkpoint_442 : decode cX12_checkpoint 442 = .ok (.iload_n 1, 1) := by decide +kernel
theorem dX12_checkpoint_443 : decode cX12_checkpoint 443 = .ok (.iconst 5, 1) := by decide +kernel
theorem dX12_checkpoint_444 : decode cX12_checkpoint 444 = .ok (.iconst 0, 1) := by decide +kernel
theorem dX12_checkpoint_445 : decode cX12_checkpoint 445 = .ok (.iconst 0, 1) := by decide +kernel
theorem dX12_checkpoint_446 : decode cX12_checkpoint 446 = .ok (.iconst 0, 1) := by decide +kernel
theorem dX12_checkpoint_447 : decode cX12_checkpoint 447 = .ok (.invokevirtual 249, 3) := by decide +kernel
theorem dX12_checkpoint_450 : decode cX12_checkpoint 450 = .ok (.iinc 5 (-1), 3) := by decide +kernel
theorem dX12_checkpoint_453 : decode cX12_checkpoint 453 = .ok (.goto (-79), 3) := by decide +kernel
theorem dX12_checkpoint_456 : decode cX12_checkpoint 456 = .ok (.aload_n 0, 1) := by decide +kernel
theorem dX12_checkpoint_457 : decode cX12_checkpoint 457 = .ok (.getfield 52, 3) := by decide +kernel
theorem dX12_checkpoint_460 : decode cX12_checkpoint 460 = .ok (.iload_n 1, 1) := by decide +kernel
theorem dX12_checkpoint_461 : decode cX12_checkpoint 461 = .ok (.iaload, 1) := by decide +kernel
theorem dX12_checkpoint_462 : decode cX12_checkpoint 462 = .ok (.ifCond .le 29, 3) := by decide +kernel
theorem dX12_checkpoint_465 : decode cX12_checkpoint 465 = .ok (.aload_n 0, 1) := by decide +kernel
theorem dX12_checkpoint_466 : decode cX12_checkpoint 466 = .ok (.iload_n 1, 1) := by decide +kernel
theorem dX12_checkpoint_467 : decode cX12_checkpoint 467 = .ok (.iconst 2, 1) := by decide +kernel
theorem dX12_checkpoint_468 : decode cX12_checkpoint 468 = .ok (.aload_n 0, 1) := by decide +kernel
theorem dX12_checkpoint_469 : decode cX12_checkpoint 469 = .ok (.getfield 49, 3) := by decide +kernel
theorem dX12_checkpoint_472 : decode cX12_checkpoint 472 = .ok (.iload_n 1, 1) := by decide +kernel
theorem dX12_checkpoint_473 : decode cX12_checkpoint 473 = .ok (.iaload, 1) := by decide +kernel
theorem dX12_checkpoint_474 : decode cX12_checkpoint 474 = .ok (.aload_n 0, 1) := by decide +kernel
theorem dX12_checkpoint_475 : decode cX12_checkpoint 475 = .ok (.getfield 37, 3) := by decide +kernel
theorem dX12_checkpoint_478 : decode cX12_checkpoint 478 = .ok (.iload_n 1, 1) := by decide +kernel
theorem dX12_checkpoint_479 : decode cX12_checkpoint 479 = .ok (.iaload, 1) := by decide +kernel
theorem dX12_checkpoint_480 : decode cX12_checkpoint 480 = .ok (.iconst 1, 1) := by decide +kernel
theorem dX12_checkpoint_481 : decode cX12_checkpoint 481 = .ok (.iadd, 1) := by decide +kernel
theorem dX12_checkpoint_482 : decode cX12_checkpoint 482 = .ok (.aload_n 0, 1) := by decide +kernel
theorem dX12_checkpoint_483 : decode cX12_checkpoint 483 = .ok (.getfield 52, 3) := by decide +kernel
theorem dX12_checkpoint_486 : decode cX12_checkpoint 486 = .ok (.iload_n 1, 1) := by decide +kernel
theorem dX12_checkpoint_487 : decode cX12_checkpoint 487 = .ok (.iaload, 1) := by decide +kernel
theorem dX12_checkpoint_488 : decode cX12_checkpoint 488 = .ok (.invokevirtual 249, 3) := by decide +kernel
theorem dX12_checkpoint_491 : decode cX12_checkpoint 491 = .ok (.aload_n 0, 1) := by decide +kernel
theorem dX12_checkpoint_492 : decode cX12_checkpoint 492 = .ok (.iload_n 1, 1) := by decide +kernel
theorem dX12_checkpoint_493 : decode cX12_checkpoint 493 = .ok (.iconst 1, 1) := by decide +kernel
theorem dX12_checkpoint_494 : decode cX12_checkpoint 494 = .ok (.aload_n 0, 1) := by decide +kernel
theorem dX12_checkpoint_495 : decode cX12_checkpoint 495 = .ok (.getfield 46, 3) := by decide +kernel
theorem dX12_checkpoint_498 : decode cX12_checkpoint 498 = .ok (.iload_n 1, 1) := by decide +kernel
theorem dX12_checkpoint_499 : decode cX12_checkpoint 499 = .ok (.iaload, 1) := by decide +kernel
theorem dX12_checkpoint_500 : decode cX12_checkpoint 500 = .ok (.iconst 0, 1) := by decide +kernel
theorem dX12_checkpoint_501 : decode cX12_checkpoint 501 = .ok (.iconst 0, 1) := by decide +kernel
theorem dX12_checkpoint_502 : decode cX12_checkpoint 502 = .ok (.invokevirtual 249, 3) := by decide +kernel
theorem dX12_checkpoint_505 : decode cX12_checkpoint 505 = .ok (.iconst 1, 1) := by decide +kernel
theorem dX12_checkpoint_506 : decode cX12_checkpoint 506 = .ok (.ireturn, 1) := by decide +kernel
theorem dX12_comeUp_0 : decode cX12_comeUp 0 = .ok (.aload_n 0, 1) := by decide +kernel
theorem dX12_comeUp_1 : decode cX12_comeUp 1 = .ok (.getfield 37, 3) := by decide +kernel
theorem dX12_comeUp_4 : decode cX12_comeUp 4 = .ok (.iload_n 1, 1) := by decide +kernel
theorem dX12_comeUp_5 : decode cX12_comeUp 5 = .ok (.iconst 0, 1) := by decide +kernel
theorem dX12_comeUp_6 : decode cX12_comeUp 6 = .ok (.iastore, 1) := by decide +kernel
theorem dX12_comeUp_7 : decode cX12_comeUp 7 = .ok (.aload_n 0, 1) := by decide +kernel
theorem dX12_comeUp_8 : decode cX12_comeUp 8 = .ok (.getfield 40, 3) := by decide +kernel
theorem dX12_comeUp_11 : decode cX12_comeUp 11 = .ok (.iload_n 1, 1) := by decide +kernel
theorem dX12_comeUp_12 : decode cX12_comeUp 12 = .ok (.iconst 0, 1) := by decide +kernel
theorem dX12_comeUp_13 : decode cX12_comeUp 13 = .ok (.iastore, 1) := by decide +kernel
theorem dX12_comeUp_14 : decode cX12_comeUp 14 = .ok (.aload_n 0, 1) := by decide +kernel
theorem dX12_comeUp_15 : decode cX12_comeUp 15 = .ok (.getfield 43, 3) := by decide +kernel
theorem dX12_comeUp_18 : decode cX12_comeUp 18 = .ok (.iload_n 1, 1) := by decide +kernel
theorem dX12_comeUp_19 : decode cX12_comeUp 19 = .ok (.iconst 0, 1) := by decide +kernel
theorem dX12_comeUp_20 : decode cX12_comeUp 20 = .ok (.iastore, 1) := by decide +kernel
theorem dX12_comeUp_21 : decode cX12_comeUp 21 = .ok (.aload_n 0, 1) := by decide +kernel
theorem dX12_comeUp_22 : decode cX12_comeUp 22 = .ok (.getfield 46, 3) := by decide +kernel
theorem dX12_comeUp_25 : decode cX12_comeUp 25 = .ok (.iload_n 1, 1) := by decide +kernel
theorem dX12_comeUp_26 : decode cX12_comeUp 26 = .ok (.iconst 0, 1) := by decide +kernel
theorem dX12_comeUp_27 : decode cX12_comeUp 27 = .ok (.iastore, 1) := by decide +kernel
theorem dX12_comeUp_28 : decode cX12_comeUp 28 = .ok (.aload_n 0, 1) := by decide +kernel
theorem dX12_comeUp_29 : decode cX12_comeUp 29 = .ok (.getfield 49, 3) := by decide +kernel
theorem dX12_comeUp_32 : decode cX12_comeUp 32 = .ok (.iload_n 1, 1) := by decide +kernel
theorem dX12_comeUp_33 : decode cX12_comeUp 33 = .ok (.iconst 0, 1) := by decide +kernel
theorem dX12_comeUp_34 : decode cX12_comeUp 34 = .ok (.iastore, 1) := by decide +kernel
theorem dX12_comeUp_35 : decode cX12_comeUp 35 = .ok (.aload_n 0, 1) := by decide +kernel
theorem dX12_comeUp_36 : decode cX12_comeUp 36 = .ok (.getfield 52, 3) := by decide +kernel
theorem dX12_comeUp_39 : decode cX12_comeUp 39 = .ok (.iload_n 1, 1) := by decide +kernel
theorem dX12_comeUp_40 : decode cX12_comeUp 40 = .ok (.iconst 0, 1) := by decide +kernel
theorem dX12_comeUp_41 : decode cX12_comeUp 41 = .ok (.iastore, 1) := by decide +kernel
theorem dX12_comeUp_42 : decode cX12_comeUp 42 = .ok (.aload_n 0, 1) := by decide +kernel
theorem dX12_comeUp_43 : decode cX12_comeUp 43 = .ok (.getfield 148, 3) := by decide +kernel
theorem dX12_comeUp_46 : decode cX12_comeUp 46 = .ok (.iload_n 1, 1) := by decide +kernel
theorem dX12_comeUp_47 : decode cX12_comeUp 47 = .ok (.iconst 0, 1) := by decide +kernel
theorem dX12_comeUp_48 : decode cX12_comeUp 48 = .ok (.iastore, 1) := by decide +kernel
theorem dX12_comeUp_49 : decode cX12_comeUp 49 = .ok (.aload_n 0, 1) := by decide +kernel
theorem dX12_comeUp_50 : decode cX12_comeUp 50 = .ok (.getfield 151, 3) := by decide +kernel
theorem dX12_comeUp_53 : decode cX12_comeUp 53 = .ok (.iload_n 1, 1) := by decide +kernel
theorem dX12_comeUp_54 : decode cX12_comeUp 54 = .ok (.iconst 0, 1) := by decide +kernel
theorem dX12_comeUp_55 : decode cX12_comeUp 55 = .ok (.iastore, 1) := by decide +kernel
theorem dX12_comeUp_56 : decode cX12_comeUp 56 = .ok (.iconst 0, 1) := by decide +kernel
theorem dX12_comeUp_57 : decode cX12_comeUp 57 = .ok (.istore_n 2, 1) := by decide +kernel
theorem dX12_comeUp_58 : decode cX12_comeUp 58 = .ok (.iload_n 2, 1) := by decide +kernel
theorem dX12_comeUp_59 : decode cX12_comeUp 59 = .ok (.bipush 16, 2) := by decide +kernel
theorem dX12_comeUp_61 : decode cX12_comeUp 61 = .ok (.if_icmp .ge 49, 3) := by decide +kernel
theorem dX12_comeUp_64 : decode cX12_comeUp 64 = .ok (.aload_n 0, 1) := by decide +kernel
theorem dX12_comeUp_65 : decode cX12_comeUp 65 = .ok (.getfield 58, 3) := by decide +kernel
theorem dX12_comeUp_68 : decode cX12_comeUp 68 = .ok (.bipush 16, 2) := by decide +kernel
theorem dX12_comeUp_70 : decode cX12_comeUp 70 = .ok (.iload_n 1, 1) := by decide +kernel
theorem dX12_comeUp_71 : decode cX12_comeUp 71 = .ok (.iconst 0, 1) := by decide +kernel
theorem dX12_comeUp_72 : decode cX12_comeUp 72 = .ok (.invokestatic 211, 3) := by decide +kernel
theorem dX12_comeUp_75 : decode cX12_comeUp 75 = .ok (.imul, 1) := by decide +kernel
theorem dX12_comeUp_76 : decode cX12_comeUp 76 = .ok (.iload_n 2, 1) := by decide +kernel
theorem dX12_comeUp_77 : decode cX12_comeUp 77 = .ok (.iadd, 1) := by decide +kernel
theorem dX12_comeUp_78 : decode cX12_comeUp 78 = .ok (.iconst 0, 1) := by decide +kernel
theorem dX12_comeUp_79 : decode cX12_comeUp 79 = .ok (.iastore, 1) := by decide +kernel
theorem dX12_comeUp_80 : decode cX12_comeUp 80 = .ok (.aload_n 0, 1) := by decide +kernel
theorem dX12_comeUp_81 : decode cX12_comeUp 81 = .ok (.getfield 67, 3) := by decide +kernel
theorem dX12_comeUp_84 : decode cX12_comeUp 84 = .ok (.bipush 16, 2) := by decide +kernel
theorem dX12_comeUp_86 : decode cX12_comeUp 86 = .ok (.iload_n 1, 1) := by decide +kernel
theorem dX12_comeUp_87 : decode cX12_comeUp 87 = .ok (.imul, 1) := by decide +kernel
theorem dX12_comeUp_88 : decode cX12_comeUp 88 = .ok (.iload_n 2, 1) := by decide +kernel
theorem dX12_comeUp_89 : decode cX12_comeUp 89 = .ok (.iadd, 1) := by decide +kernel
theorem dX12_comeUp_90 : decode cX12_comeUp 90 = .ok (.iconst 0, 1) := by decide +kernel
theorem dX12_comeUp_91 : decode cX12_comeUp 91 = .ok (.iastore, 1) := by decide +kernel
theorem dX12_comeUp_92 : decode cX12_comeUp 92 = .ok (.aload_n 0, 1) := by decide +kernel
theorem dX12_comeUp_93 : decode cX12_comeUp 93 = .ok (.getfield 70, 3) := by decide +kernel
theorem dX12_comeUp_96 : decode cX12_comeUp 96 = .ok (.bipush 16, 2) := by decide +kernel
theorem dX12_comeUp_98 : decode cX12_comeUp 98 = .ok (.iload_n 1, 1) := by decide +kernel
theorem dX12_comeUp_99 : decode cX12_comeUp 99 = .ok (.imul, 1) := by decide +kernel
theorem dX12_comeUp_100 : decode cX12_comeUp 100 = .ok (.iload_n 2, 1) := by decide +kernel
theorem dX12_comeUp_101 : decode cX12_comeUp 101 = .ok (.iadd, 1) := by decide +kernel
theorem dX12_comeUp_102 : decode cX12_comeUp 102 = .ok (.iconst 0, 1) := by decide +kernel
theorem dX12_comeUp_103 : decode cX12_comeUp 103 = .ok (.iastore, 1) := by decide +kernel
theorem dX12_comeUp_104 : decode cX12_comeUp 104 = .ok (.iinc 2 1, 3) := by decide +kernel
theorem dX12_comeUp_107 : decode cX12_comeUp 107 = .ok (.goto (-49), 3) := by decide +kernel
theorem dX12_comeUp_110 : decode cX12_comeUp 110 = .ok (.iconst 0, 1) := by decide +kernel
theorem dX12_comeUp_111 : decode cX12_comeUp 111 = .ok (.istore_n 2, 1) := by decide +kernel
theorem dX12_comeUp_112 : decode cX12_comeUp 112 = .ok (.iload_n 2, 1) := by decide +kernel
theorem dX12_comeUp_113 : decode cX12_comeUp 113 = .ok (.aload_n 0, 1) := by decide +kernel
theorem dX12_comeUp_114 : decode cX12_comeUp 114 = .ok (.getfield 107, 3) := by decide +kernel
theorem dX12_comeUp_117 : decode cX12_comeUp 117 = .ok (.iload_n 1, 1) := by decide +kernel
theorem dX12_comeUp_118 : decode cX12_comeUp 118 = .ok (.iaload, 1) := by decide +kernel
theorem dX12_comeUp_119 : decode cX12_comeUp 119 = .ok (.if_icmp .ge 219, 3) := by decide +kernel
theorem dX12_comeUp_122 : decode cX12_comeUp 122 = .ok (.bipush 64, 2) := by decide +kernel
theorem dX12_comeUp_124 : decode cX12_comeUp 124 = .ok (.iload_n 1, 1) := by decide +kernel
theorem dX12_comeUp_125 : decode cX12_comeUp 125 = .ok (.imul, 1) := by decide +kernel
theorem dX12_comeUp_126 : decode cX12_comeUp 126 = .ok (.iload_n 2, 1) := by decide +kernel
theorem dX12_comeUp_127 : decode cX12_comeUp 127 = .ok (.iadd, 1) := by decide +kernel
theorem dX12_comeUp_128 : decode cX12_comeUp 128 = .ok (.istore_n 3, 1) := by decide +kernel
theorem dX12_comeUp_129 : decode cX12_comeUp 129 = .ok (.aload_n 0, 1) := by decide +kernel
theorem dX12_comeUp_130 : decode cX12_comeUp 130 = .ok (.getfield 100, 3) := by decide +kernel
theorem dX12_comeUp_133 : decode cX12_comeUp 133 = .ok (.iconst 4, 1) := by decide +kernel
theorem dX12_comeUp_134 : decode cX12_comeUp 134 = .ok (.iload_n 3, 1) := by decide +kernel
theorem dX12_comeUp_135 : decode cX12_comeUp 135 = .ok (.imul, 1) := by decide +kernel
theorem dX12_comeUp_136 : decode cX12_comeUp 136 = .ok (.iaload, 1) := by decide +kernel
theorem dX12_comeUp_137 : decode cX12_comeUp 137 = .ok (.istore 4, 2) := by decide +kernel
theorem dX12_comeUp_139 : decode cX12_comeUp 139 = .ok (.iload 4, 2) := by decide +kernel
theorem dX12_comeUp_141 : decode cX12_comeUp 141 = .ok (.iconst 3, 1) := by decide +kernel
theorem dX12_comeUp_142 : decode cX12_comeUp 142 = .ok (.if_icmp .ge 19, 3) := by decide +kernel
theorem dX12_comeUp_145 : decode cX12_comeUp 145 = .ok (.aload_n 0, 1) := by decide +kernel
theorem dX12_comeUp_146 : decode cX12_comeUp 146 = .ok (.getfield 46, 3) := by decide +kernel
theorem dX12_comeUp_149 : decode cX12_comeUp 149 = .ok (.iload_n 1, 1) := by decide +kernel
theorem dX12_comeUp_150 : decode cX12_comeUp 150 = .ok (.aload_n 0, 1) := by decide +kernel
theorem dX12_comeUp_151 : decode cX12_comeUp 151 = .ok (.getfield 100, 3) := by decide +kernel
theorem dX12_comeUp_154 : decode cX12_comeUp 154 = .ok (.iconst 4, 1) := by decide +kernel
theorem dX12_comeUp_155 : decode cX12_comeUp 155 = .ok (.iload_n 3, 1) := by decide +kernel
theorem dX12_comeUp_156 : decode cX12_comeUp 156 = .ok (.imul, 1) := by decide +kernel
theorem dX12_comeUp_157 : decode cX12_comeUp 157 = .ok (.iconst 1, 1) := by decide +kernel
theorem dX12_comeUp_158 : decode cX12_comeUp 158 = .ok (.iadd, 1) := by decide +kernel
theorem dX12_comeUp_159 : decode cX12_comeUp 159 = .ok (.iaload, 1) := by decide +kernel
theorem dX12_comeUp_160 : decode cX12_comeUp 160 = .ok (.iastore, 1) := by decide +kernel
theorem dX12_comeUp_161 : decode cX12_comeUp 161 = .ok (.iload 4, 2) := by decide +kernel
theorem dX12_comeUp_163 : decode cX12_comeUp 163 = .ok (.iconst 2, 1) := by decide +kernel
theorem dX12_comeUp_164 : decode cX12_comeUp 164 = .ok (.if_icmp .ne 49, 3) := by decide +kernel
theorem dX12_comeUp_167 : decode cX12_comeUp 167 = .ok (.aload_n 0, 1) := by decide +kernel
theorem dX12_comeUp_168 : decode cX12_comeUp 168 = .ok (.getfield 100, 3) := by decide +kernel
theorem dX12_comeUp_171 : decode cX12_comeUp 171 = .ok (.iconst 4, 1) := by decide +kernel
theorem dX12_comeUp_172 : decode cX12_comeUp 172 = .ok (.iload_n 3, 1) := by decide +kernel
theorem dX12_comeUp_173 : decode cX12_comeUp 173 = .ok (.imul, 1) := by decide +kernel
theorem dX12_comeUp_174 : decode cX12_comeUp 174 = .ok (.iconst 2, 1) := by decide +kernel
theorem dX12_comeUp_175 : decode cX12_comeUp 175 = .ok (.iadd, 1) := by decide +kernel
theorem dX12_comeUp_176 : decode cX12_comeUp 176 = .ok (.iaload, 1) := by decide +kernel
theorem dX12_comeUp_177 : decode cX12_comeUp 177 = .ok (.aload_n 0, 1) := by decide +kernel
theorem dX12_comeUp_178 : decode cX12_comeUp 178 = .ok (.getfield 37, 3) := by decide +kernel
theorem dX12_comeUp_181 : decode cX12_comeUp 181 = .ok (.iload_n 1, 1) := by decide +kernel
theorem dX12_comeUp_182 : decode cX12_comeUp 182 = .ok (.iaload, 1) := by decide +kernel
theorem dX12_comeUp_183 : decode cX12_comeUp 183 = .ok (.iconst 1, 1) := by decide +kernel
theorem dX12_comeUp_184 : decode cX12_comeUp 184 = .ok (.iadd, 1) := by decide +kernel
theorem dX12_comeUp_185 : decode cX12_comeUp 185 = .ok (.if_icmp .ne 28, 3) := by decide +kernel
theorem dX12_comeUp_188 : decode cX12_comeUp 188 = .ok (.aload_n 0, 1) := by decide +kernel
theorem dX12_comeUp_189 : decode cX12_comeUp 189 = .ok (.iload_n 1, 1) := by decide +kernel
theorem dX12_comeUp_190 : decode cX12_comeUp 190 = .ok (.aload_n 0, 1) := by decide +kernel
theorem dX12_comeUp_191 : decode cX12_comeUp 191 = .ok (.getfield 100, 3) := by decide +kernel
theorem dX12_comeUp_194 : decode cX12_comeUp 194 = .ok (.iconst 4, 1) := by decide +kernel
theorem dX12_comeUp_195 : decode cX12_comeUp 195 = .ok (.iload_n 3, 1) := by decide +kernel
theorem dX12_comeUp_196 : decode cX12_comeUp 196 = .ok (.imul, 1) := by decide +kernel
theorem dX12_comeUp_197 : decode cX12_comeUp 197 = .ok (.iconst 1, 1) := by decide +kernel
theorem dX12_comeUp_198 : decode cX12_comeUp 198 = .ok (.iadd, 1) := by decide +kernel
theorem dX12_comeUp_199 : decode cX12_comeUp 199 = .ok (.iaload, 1) := by decide +kernel
theorem dX12_comeUp_200 : decode cX12_comeUp 200 = .ok (.aload_n 0, 1) := by decide +kernel
theorem dX12_comeUp_201 : decode cX12_comeUp 201 = .ok (.getfield 100, 3) := by decide +kernel
theorem dX12_comeUp_204 : decode cX12_comeUp 204 = .ok (.iconst 4, 1) := by decide +kernel
theorem dX12_comeUp_205 : decode cX12_comeUp 205 = .ok (.iload_n 3, 1) := by decide +kernel
theorem dX12_comeUp_206 : decode cX12_comeUp 206 = .ok (.imul, 1) := by decide +kernel
theorem dX12_comeUp_207 : decode cX12_comeUp 207 = .ok (.iconst 3, 1) := by decide +kernel
theorem dX12_comeUp_208 : decode cX12_comeUp 208 = .ok (.iadd, 1) := by decide +kernel
theorem dX12_comeUp_209 : decode cX12_comeUp 209 = .ok (.iaload, 1) := by decide +kernel
theorem dX12_comeUp_210 : decode cX12_comeUp 210 = .ok (.invokevirtual 272, 3) := by decide +kernel
theorem dX12_comeUp_213 : decode cX12_comeUp 213 = .ok (.iload 4, 2) := by decide +kernel
theorem dX12_comeUp_215 : decode cX12_comeUp 215 = .ok (.iconst 3, 1) := by decide +kernel
theorem dX12_comeUp_216 : decode cX12_comeUp 216 = .ok (.if_icmp .ne 25, 3) := by decide +kernel
theorem dX12_comeUp_219 : decode cX12_comeUp 219 = .ok (.aload_n 0, 1) := by decide +kernel
theorem dX12_comeUp_220 : decode cX12_comeUp 220 = .ok (.iload_n 1, 1) := by decide +kernel
theorem dX12_comeUp_221 : decode cX12_comeUp 221 = .ok (.aload_n 0, 1) := by decide +kernel
theorem dX12_comeUp_222 : decode cX12_comeUp 222 = .ok (.getfield 100, 3) := by decide +kernel
theorem dX12_comeUp_225 : decode cX12_comeUp 225 = .ok (.iconst 4, 1) := by decide +kernel
theorem dX12_comeUp_226 : decode cX12_comeUp 226 = .ok (.iload_n 3, 1) := by decide +kernel
theorem dX12_comeUp_227 : decode cX12_comeUp 227 = .ok (.imul, 1) := by decide +kernel
theorem dX12_comeUp_228 : decode cX12_comeUp 228 = .ok (.iconst 3, 1) := by decide +kernel
theorem dX12_comeUp_229 : decode cX12_comeUp 229 = .ok (.iadd, 1) := by decide +kernel
theorem dX12_comeUp_230 : decode cX12_comeUp 230 = .ok (.iaload, 1) := by decide +kernel
theorem dX12_comeUp_231 : decode cX12_comeUp 231 = .ok (.invokevirtual 275, 3) := by decide +kernel
theorem dX12_comeUp_234 : decode cX12_comeUp 234 = .ok (.aload_n 0, 1) := by decide +kernel
theorem dX12_comeUp_235 : decode cX12_comeUp 235 = .ok (.iload_n 1, 1) := by decide +kernel
theorem dX12_comeUp_236 : decode cX12_comeUp 236 = .ok (.iconst 0, 1) := by decide +kernel
theorem dX12_comeUp_237 : decode cX12_comeUp 237 = .ok (.iconst 0, 1) := by decide +kernel
theorem dX12_comeUp_238 : decode cX12_comeUp 238 = .ok (.invokevirtual 272, 3) := by decide +kernel
theorem dX12_comeUp_241 : decode cX12_comeUp 241 = .ok (.iload 4, 2) := by decide +kernel
theorem dX12_comeUp_243 : decode cX12_comeUp 243 = .ok (.iconst 4, 1) := by decide +kernel
theorem dX12_comeUp_244 : decode cX12_comeUp 244 = .ok (.if_icmp .ne 23, 3) := by decide +kernel
theorem dX12_comeUp_247 : decode cX12_comeUp 247 = .ok (.aload_n 0, 1) := by decide +kernel
theorem dX12_comeUp_248 : decode cX12_comeUp 248 = .ok (.iload_n 1, 1) := by decide +kernel
theorem dX12_comeUp_249 : decode cX12_comeUp 249 = .ok (.aload_n 0, 1) := by decide +kernel
theorem dX12_comeUp_250 : decode cX12_comeUp 250 = .ok (.getfield 104, 3) := by decide +kernel
theorem dX12_comeUp_253 : decode cX12_comeUp 253 = .ok (.bipush 100, 2) := by decide +kernel
theorem dX12_comeUp_255 : decode cX12_comeUp 255 = .ok (.iload_n 3, 1) := by decide +kernel
theorem dX12_comeUp_256 : decode cX12_comeUp 256 = .ok (.imul, 1) := by decide +kernel
theorem dX12_comeUp_257 : decode cX12_comeUp 257 = .ok (.invokevirtual 278, 3) := by decide +kernel
theorem dX12_comeUp_260 : decode cX12_comeUp 260 = .ok (.aload_n 0, 1) := by decide +kernel
theorem dX12_comeUp_261 : decode cX12_comeUp 261 = .ok (.iload_n 1, 1) := by decide +kernel
theorem dX12_comeUp_262 : decode cX12_comeUp 262 = .ok (.iconst 0, 1) := by decide +kernel
theorem dX12_comeUp_263 : decode cX12_comeUp 263 = .ok (.iconst 0, 1) := by decide +kernel
theorem dX12_comeUp_264 : decode cX12_comeUp 264 = .ok (.invokevirtual 272, 3) := by decide +kernel
theorem dX12_comeUp_267 : decode cX12_comeUp 267 = .ok (.iload 4, 2) := by decide +kernel
theorem dX12_comeUp_269 : decode cX12_comeUp 269 = .ok (.iconst 5, 1) := by decide +kernel
theorem dX12_comeUp_270 : decode cX12_comeUp 270 = .ok (.if_icmp .ne 62, 3) := by decide +kernel
theorem dX12_comeUp_273 : decode cX12_comeUp 273 = .ok (.aload_n 0, 1) := by decide +kernel
theorem dX12_comeUp_274 : decode cX12_comeUp 274 = .ok (.getfield 40, 3) := by decide +kernel
theorem dX12_comeUp_277 : decode cX12_comeUp 277 = .ok (.iload_n 1, 1) := by decide +kernel
theorem dX12_comeUp_278 : decode cX12_comeUp 278 = .ok (.dup2, 1) := by decide +kernel
theorem dX12_comeUp_279 : decode cX12_comeUp 279 = .ok (.iaload, 1) := by decide +kernel
theorem dX12_comeUp_280 : decode cX12_comeUp 280 = .ok (.iconst 1, 1) := by decide +kernel
theorem dX12_comeUp_281 : decode cX12_comeUp 281 = .ok (.isub, 1) := by decide +kernel
theorem dX12_comeUp_282 : decode cX12_comeUp 282 = .ok (.iastore, 1) := by decide +kernel
theorem dX12_comeUp_283 : decode cX12_comeUp 283 = .ok (.iconst 0, 1) := by decide +kernel
theorem dX12_comeUp_284 : decode cX12_comeUp 284 = .ok (.istore 5, 2) := by decide +kernel
theorem dX12_comeUp_286 : decode cX12_comeUp 286 = .ok (.iload 5, 2) := by decide +kernel
theorem dX12_comeUp_288 : decode cX12_comeUp 288 = .ok (.bipush 16, 2) := by decide +kernel
theorem dX12_comeUp_290 : decode cX12_comeUp 290 = .ok (.if_icmp .ge 42, 3) := by decide +kernel
theorem dX12_comeUp_293 : decode cX12_comeUp 293 = .ok (.aload_n 0, 1) := by decide +kernel
theorem dX12_comeUp_294 : decode cX12_comeUp 294 = .ok (.getfield 58, 3) := by decide +kernel
theorem dX12_comeUp_297 : decode cX12_comeUp 297 = .ok (.bipush 16, 2) := by decide +kernel
theorem dX12_comeUp_299 : decode cX12_comeUp 299 = .ok (.iload_n 1, 1) := by decide +kernel
theorem dX12_comeUp_300 : decode cX12_comeUp 300 = .ok (.aload_n 0, 1) := by decide +kernel
theorem dX12_comeUp_301 : decode cX12_comeUp 301 = .ok (.getfield 40, 3) := by decide +kernel
theorem dX12_comeUp_304 : decode cX12_comeUp 304 = .ok (.iload_n 1, 1) := by decide +kernel
theorem dX12_comeUp_305 : decode cX12_comeUp 305 = .ok (.iaload, 1) := by decide +kernel
theorem dX12_comeUp_306 : decode cX12_comeUp 306 = .ok (.invokestatic 211, 3) := by decide +kernel
theorem dX12_comeUp_309 : decode cX12_comeUp 309 = .ok (.imul, 1) := by decide +kernel
theorem dX12_comeUp_310 : decode cX12_comeUp 310 = .ok (.iload 5, 2) := by decide +kernel
theorem dX12_comeUp_312 : decode cX12_comeUp 312 = .ok (.iadd, 1) := by decide +kernel
theorem dX12_comeUp_313 : decode cX12_comeUp 313 = .ok (.aload_n 0, 1) := by decide +kernel
theorem dX12_comeUp_314 : decode cX12_comeUp 314 = .ok (.getfield 104, 3) := by decide +kernel
theorem dX12_comeUp_317 : decode cX12_comeUp 317 = .ok (.bipush 100, 2) := by decide +kernel
theorem dX12_comeUp_319 : decode cX12_comeUp 319 = .ok (.iload_n 3, 1) := by decide +kernel
theorem dX12_comeUp_320 : decode cX12_comeUp 320 = .ok (.imul, 1) := by decide +kernel
theorem dX12_comeUp_321 : decode cX12_comeUp 321 = .ok (.iload 5, 2) := by decide +kernel
theorem dX12_comeUp_323 : decode cX12_comeUp 323 = .ok (.iadd, 1) := by decide +kernel
theorem dX12_comeUp_324 : decode cX12_comeUp 324 = .ok (.iaload, 1) := by decide +kernel
theorem dX12_comeUp_325 : decode cX12_comeUp 325 = .ok (.iastore, 1) := by decide +kernel
theorem dX12_comeUp_326 : decode cX12_comeUp 326 = .ok (.iinc 5 1, 3) := by decide +kernel
theorem dX12_comeUp_329 : decode cX12_comeUp 329 = .ok (.goto (-43), 3) := by decide +kernel
theorem dX12_comeUp_332 : decode cX12_comeUp 332 = .ok (.iinc 2 1, 3) := by decide +kernel
theorem dX12_comeUp_335 : decode cX12_comeUp 335 = .ok (.goto (-223), 3) := by decide +kernel
theorem dX12_comeUp_338 : decode cX12_comeUp 338 = .ok (.aload_n 0, 1) := by decide +kernel
theorem dX12_comeUp_339 : decode cX12_comeUp 339 = .ok (.getfield 91, 3) := by decide +kernel
theorem dX12_comeUp_342 : decode cX12_comeUp 342 = .ok (.iload_n 1, 1) := by decide +kernel
theorem dX12_comeUp_343 : decode cX12_comeUp 343 = .ok (.aload_n 0, 1) := by decide +kernel
theorem dX12_comeUp_344 : decode cX12_comeUp 344 = .ok (.getfield 46, 3) := by decide +kernel
theorem dX12_comeUp_347 : decode cX12_comeUp 347 = .ok (.iload_n 1, 1) := by decide +kernel
theorem dX12_comeUp_348 : decode cX12_comeUp 348 = .ok (.iaload, 1) := by decide +kernel
theorem dX12_comeUp_349 : decode cX12_comeUp 349 = .ok (.iastore, 1) := by decide +kernel
theorem dX12_comeUp_350 : decode cX12_comeUp 350 = .ok (.aload_n 0, 1) := by decide +kernel
theorem dX12_comeUp_351 : decode cX12_comeUp 351 = .ok (.getfield 122, 3) := by decide +kernel
theorem dX12_comeUp_354 : decode cX12_comeUp 354 = .ok (.iload_n 1, 1) := by decide +kernel
theorem dX12_comeUp_355 : decode cX12_comeUp 355 = .ok (.iconst (-1), 1) := by decide +kernel
theorem dX12_comeUp_356 : decode cX12_comeUp 356 = .ok (.iastore, 1) := by decide +kernel
theorem dX12_comeUp_357 : decode cX12_comeUp 357 = .ok (.aload_n 0, 1) := by decide +kernel
theorem dX12_comeUp_358 : decode cX12_comeUp 358 = .ok (.getfield 55, 3) := by decide +kernel
theorem dX12_comeUp_361 : decode cX12_comeUp 361 = .ok (.iload_n 1, 1) := by decide +kernel
theorem dX12_comeUp_362 : decode cX12_comeUp 362 = .ok (.iconst 0, 1) := by decide +kernel
theorem dX12_comeUp_363 : decode cX12_comeUp 363 = .ok (.iastore, 1) := by decide +kernel
theorem dX12_comeUp_364 : decode cX12_comeUp 364 = .ok (.aload_n 0, 1) := by decide +kernel
theorem dX12_comeUp_365 : decode cX12_comeUp 365 = .ok (.iload_n 1, 1) := by decide +kernel
theorem dX12_comeUp_366 : decode cX12_comeUp 366 = .ok (.invokevirtual 281, 3) := by decide +kernel
theorem dX12_comeUp_369 : decode cX12_comeUp 369 = .ok (.istore_n 2, 1) := by decide +kernel
theorem dX12_comeUp_370 : decode cX12_comeUp 370 = .ok (.return_, 1) := by decide +kernel
theorem dX12_accept_0 : decode cX12_accept 0 = .ok (.aload_n 0, 1) := by decide +kernel
theorem dX12_accept_1 : decode cX12_accept 1 = .ok (.getfield 49, 3) := by decide +kernel
theorem dX12_accept_4 : decode cX12_accept 4 = .ok (.iload_n 1, 1) := by decide +kernel
theorem dX12_accept_5 : decode cX12_accept 5 = .ok (.iload_n 2, 1) := by decide +kernel
theorem dX12_accept_6 : decode cX12_accept 6 = .ok (.iastore, 1) := by decide +kernel
theorem dX12_accept_7 : decode cX12_accept 7 = .ok (.aload_n 0, 1) := by decide +kernel
theorem dX12_accept_8 : decode cX12_accept 8 = .ok (.getfield 52, 3) := by decide +kernel
theorem dX12_accept_11 : decode cX12_accept 11 = .ok (.iload_n 1, 1) := by decide +kernel
theorem dX12_accept_12 : decode cX12_accept 12 = .ok (.iload_n 3, 1) := by decide +kernel
theorem dX12_accept_13 : decode cX12_accept 13 = .ok (.iastore, 1) := by decide +kernel
theorem dX12_accept_14 : decode cX12_accept 14 = .ok (.return_, 1) := by decide +kernel
theorem dX12_goDown_0 : decode cX12_goDown 0 = .ok (.aload_n 0, 1) := by decide +kernel
theorem dX12_goDown_1 : decode cX12_goDown 1 = .ok (.getfield 33, 3) := by decide +kernel
theorem dX12_goDown_4 : decode cX12_goDown 4 = .ok (.iload_n 1, 1) := by decide +kernel
theorem dX12_goDown_5 : decode cX12_goDown 5 = .ok (.iconst 0, 1) := by decide +kernel
theorem dX12_goDown_6 : decode cX12_goDown 6 = .ok (.bastore, 1) := by decide +kernel
theorem dX12_goDown_7 : decode cX12_goDown 7 = .ok (.aload_n 0, 1) := by decide +kernel
theorem dX12_goDown_8 : decode cX12_goDown 8 = .ok (.iload_n 1, 1) := by decide +kernel
theorem dX12_goDown_9 : decode cX12_goDown 9 = .ok (.invokevirtual 284, 3) := by decide +kernel
theorem dX12_goDown_12 : decode cX12_goDown 12 = .ok (.aload_n 0, 1) := by decide +kernel
theorem dX12_goDown_13 : decode cX12_goDown 13 = .ok (.getfield 97, 3) := by decide +kernel
theorem dX12_goDown_16 : decode cX12_goDown 16 = .ok (.iload_n 1, 1) := by decide +kernel
theorem dX12_goDown_17 : decode cX12_goDown 17 = .ok (.iconst 0, 1) := by decide +kernel
theorem dX12_goDown_18 : decode cX12_goDown 18 = .ok (.iastore, 1) := by decide +kernel
theorem dX12_goDown_19 : decode cX12_goDown 19 = .ok (.iconst 0, 1) := by decide +kernel
theorem dX12_goDown_20 : decode cX12_goDown 20 = .ok (.istore_n 2, 1) := by decide +kernel
theorem dX12_goDown_21 : decode cX12_goDown 21 = .ok (.iload_n 2, 1) := by decide +kernel
theorem dX12_goDown_22 : decode cX12_goDown 22 = .ok (.bipush 16, 2) := by decide +kernel
theorem dX12_goDown_24 : decode cX12_goDown 24 = .ok (.if_icmp .ge 45, 3) := by decide +kernel
theorem dX12_goDown_27 : decode cX12_goDown 27 = .ok (.aload_n 0, 1) := by decide +kernel
theorem dX12_goDown_28 : decode cX12_goDown 28 = .ok (.getfield 157, 3) := by decide +kernel
theorem dX12_goDown_31 : decode cX12_goDown 31 = .ok (.iload_n 2, 1) := by decide +kernel
theorem dX12_goDown_32 : decode cX12_goDown 32 = .ok (.aload_n 0, 1) := by decide +kernel
theorem dX12_goDown_33 : decode cX12_goDown 33 = .ok (.getfield 157, 3) := by decide +kernel
theorem dX12_goDown_36 : decode cX12_goDown 36 = .ok (.iload_n 2, 1) := by decide +kernel
theorem dX12_goDown_37 : decode cX12_goDown 37 = .ok (.iaload, 1) := by decide +kernel
theorem dX12_goDown_38 : decode cX12_goDown 38 = .ok (.iconst 1, 1) := by decide +kernel
theorem dX12_goDown_39 : decode cX12_goDown 39 = .ok (.if_icmp .ne 17, 3) := by decide +kernel
theorem dX12_goDown_42 : decode cX12_goDown 42 = .ok (.aload_n 0, 1) := by decide +kernel
theorem dX12_goDown_43 : decode cX12_goDown 43 = .ok (.getfield 163, 3) := by decide +kernel
theorem dX12_goDown_46 : decode cX12_goDown 46 = .ok (.iload_n 2, 1) := by decide +kernel
theorem dX12_goDown_47 : decode cX12_goDown 47 = .ok (.iaload, 1) := by decide +kernel
theorem dX12_goDown_48 : decode cX12_goDown 48 = .ok (.iload_n 1, 1) := by decide +kernel
theorem dX12_goDown_49 : decode cX12_goDown 49 = .ok (.if_icmp .ne 7, 3) := by decide +kernel
theorem dX12_goDown_52 : decode cX12_goDown 52 = .ok (.iconst 4, 1) := by decide +kernel
theorem dX12_goDown_53 : decode cX12_goDown 53 = .ok (.goto 9, 3) := by decide +kernel
theorem dX12_goDown_56 : decode cX12_goDown 56 = .ok (.aload_n 0, 1) := by decide +kernel
theorem dX12_goDown_57 : decode cX12_goDown 57 = .ok (.getfield 157, 3) := by decide +kernel
theorem dX12_goDown_60 : decode cX12_goDown 60 = .ok (.iload_n 2, 1) := by decide +kernel
theorem dX12_goDown_61 : decode cX12_goDown 61 = .ok (.iaload, 1) := by decide +kernel
theorem dX12_goDown_62 : decode cX12_goDown 62 = .ok (.iastore, 1) := by decide +kernel
theorem dX12_goDown_63 : decode cX12_goDown 63 = .ok (.iinc 2 1, 3) := by decide +kernel
theorem dX12_goDown_66 : decode cX12_goDown 66 = .ok (.goto (-45), 3) := by decide +kernel
theorem dX12_goDown_69 : decode cX12_goDown 69 = .ok (.return_, 1) := by decide +kernel
theorem dX12_send_0 : decode cX12_send 0 = .ok (.aload_n 0, 1) := by decide +kernel
theorem dX12_send_1 : decode cX12_send 1 = .ok (.dup, 1) := by decide +kernel
theorem dX12_send_2 : decode cX12_send 2 = .ok (.getfield 287, 3) := by decide +kernel
theorem dX12_send_5 : decode cX12_send 5 = .ok (.iconst 1, 1) := by decide +kernel
theorem dX12_send_6 : decode cX12_send 6 = .ok (.iadd, 1) := by decide +kernel
theorem dX12_send_7 : decode cX12_send 7 = .ok (.putfield 287, 3) := by decide +kernel
theorem dX12_send_10 : decode cX12_send 10 = .ok (.aload_n 0, 1) := by decide +kernel
theorem dX12_send_11 : decode cX12_send 11 = .ok (.getfield 290, 3) := by decide +kernel
theorem dX12_send_14 : decode cX12_send 14 = .ok (.sipush 200, 3) := by decide +kernel
theorem dX12_send_17 : decode cX12_send 17 = .ok (.if_icmp .ne 14, 3) := by decide +kernel
theorem dX12_send_20 : decode cX12_send 20 = .ok (.aload_n 0, 1) := by decide +kernel
theorem dX12_send_21 : decode cX12_send 21 = .ok (.dup, 1) := by decide +kernel
theorem dX12_send_22 : decode cX12_send 22 = .ok (.getfield 293, 3) := by decide +kernel
theorem dX12_send_25 : decode cX12_send 25 = .ok (.iconst 1, 1) := by decide +kernel
theorem dX12_send_26 : decode cX12_send 26 = .ok (.iadd, 1) := by decide +kernel
theorem dX12_send_27 : decode cX12_send 27 = .ok (.putfield 293, 3) := by decide +kernel
theorem dX12_send_30 : decode cX12_send 30 = .ok (.return_, 1) := by decide +kernel
theorem dX12_send_31 : decode cX12_send 31 = .ok (.bipush 8, 2) := by decide +kernel
theorem dX12_send_33 : decode cX12_send 33 = .ok (.aload_n 0, 1) := by decide +kernel
theorem dX12_send_34 : decode cX12_send 34 = .ok (.getfield 290, 3) := by decide +kernel
theorem dX12_send_37 : decode cX12_send 37 = .ok (.imul, 1) := by decide +kernel
theorem dX12_send_38 : decode cX12_send 38 = .ok (.istore 8, 2) := by decide +kernel
theorem dX12_send_40 : decode cX12_send 40 = .ok (.aload_n 0, 1) := by decide +kernel
theorem dX12_send_41 : decode cX12_send 41 = .ok (.getfield 136, 3) := by decide +kernel
theorem dX12_send_44 : decode cX12_send 44 = .ok (.iload 8, 2) := by decide +kernel
theorem dX12_send_46 : decode cX12_send 46 = .ok (.iload_n 1, 1) := by decide +kernel
theorem dX12_send_47 : decode cX12_send 47 = .ok (.iastore, 1) := by decide +kernel
theorem dX12_send_48 : decode cX12_send 48 = .ok (.aload_n 0, 1) := by decide +kernel
theorem dX12_send_49 : decode cX12_send 49 = .ok (.getfield 136, 3) := by decide +kernel
theorem dX12_send_52 : decode cX12_send 52 = .ok (.iload 8, 2) := by decide +kernel
theorem dX12_send_54 : decode cX12_send 54 = .ok (.iconst 1, 1) := by decide +kernel
theorem dX12_send_55 : decode cX12_send 55 = .ok (.iadd, 1) := by decide +kernel
theorem dX12_send_56 : decode cX12_send 56 = .ok (.iload_n 2, 1) := by decide +kernel
theorem dX12_send_57 : decode cX12_send 57 = .ok (.iastore, 1) := by decide +kernel
theorem dX12_send_58 : decode cX12_send 58 = .ok (.aload_n 0, 1) := by decide +kernel
theorem dX12_send_59 : decode cX12_send 59 = .ok (.getfield 136, 3) := by decide +kernel
theorem dX12_send_62 : decode cX12_send 62 = .ok (.iload 8, 2) := by decide +kernel
theorem dX12_send_64 : decode cX12_send 64 = .ok (.iconst 2, 1) := by decide +kernel
theorem dX12_send_65 : decode cX12_send 65 = .ok (.iadd, 1) := by decide +kernel
theorem dX12_send_66 : decode cX12_send 66 = .ok (.iload_n 3, 1) := by decide +kernel
theorem dX12_send_67 : decode cX12_send 67 = .ok (.iastore, 1) := by decide +kernel
theorem dX12_send_68 : decode cX12_send 68 = .ok (.aload_n 0, 1) := by decide +kernel
theorem dX12_send_69 : decode cX12_send 69 = .ok (.getfield 136, 3) := by decide +kernel
theorem dX12_send_72 : decode cX12_send 72 = .ok (.iload 8, 2) := by decide +kernel
theorem dX12_send_74 : decode cX12_send 74 = .ok (.iconst 3, 1) := by decide +kernel
theorem dX12_send_75 : decode cX12_send 75 = .ok (.iadd, 1) := by decide +kernel
theorem dX12_send_76 : decode cX12_send 76 = .ok (.iload 4, 2) := by decide +kernel
theorem dX12_send_78 : decode cX12_send 78 = .ok (.iastore, 1) := by decide +kernel
theorem dX12_send_79 : decode cX12_send 79 = .ok (.aload_n 0, 1) := by decide +kernel
theorem dX12_send_80 : decode cX12_send 80 = .ok (.getfield 136, 3) := by decide +kernel
theorem dX12_send_83 : decode cX12_send 83 = .ok (.iload 8, 2) := by decide +kernel
theorem dX12_send_85 : decode cX12_send 85 = .ok (.iconst 4, 1) := by decide +kernel
theorem dX12_send_86 : decode cX12_send 86 = .ok (.iadd, 1) := by decide +kernel
theorem dX12_send_87 : decode cX12_send 87 = .ok (.iload 5, 2) := by decide +kernel
theorem dX12_send_89 : decode cX12_send 89 = .ok (.iastore, 1) := by decide +kernel
theorem dX12_send_90 : decode cX12_send 90 = .ok (.aload_n 0, 1) := by decide +kernel
theorem dX12_send_91 : decode cX12_send 91 = .ok (.getfield 136, 3) := by decide +kernel
theorem dX12_send_94 : decode cX12_send 94 = .ok (.iload 8, 2) := by decide +kernel
theorem dX12_send_96 : decode cX12_send 96 = .ok (.iconst 5, 1) := by decide +kernel
theorem dX12_send_97 : decode cX12_send 97 = .ok (.iadd, 1) := by decide +kernel
theorem dX12_send_98 : decode cX12_send 98 = .ok (.iload 6, 2) := by decide +kernel
theorem dX12_send_100 : decode cX12_send 100 = .ok (.iastore, 1) := by decide +kernel
theorem dX12_send_101 : decode cX12_send 101 = .ok (.aload_n 0, 1) := by decide +kernel
theorem dX12_send_102 : decode cX12_send 102 = .ok (.getfield 136, 3) := by decide +kernel
theorem dX12_send_105 : decode cX12_send 105 = .ok (.iload 8, 2) := by decide +kernel
theorem dX12_send_107 : decode cX12_send 107 = .ok (.bipush 6, 2) := by decide +kernel
theorem dX12_send_109 : decode cX12_send 109 = .ok (.iadd, 1) := by decide +kernel
theorem dX12_send_110 : decode cX12_send 110 = .ok (.iload 7, 2) := by decide +kernel
theorem dX12_send_112 : decode cX12_send 112 = .ok (.iastore, 1) := by decide +kernel
theorem dX12_send_113 : decode cX12_send 113 = .ok (.aload_n 0, 1) := by decide +kernel
theorem dX12_send_114 : decode cX12_send 114 = .ok (.getfield 136, 3) := by decide +kernel
theorem dX12_send_117 : decode cX12_send 117 = .ok (.iload 8, 2) := by decide +kernel
theorem dX12_send_119 : decode cX12_send 119 = .ok (.bipush 7, 2) := by decide +kernel
theorem dX12_send_121 : decode cX12_send 121 = .ok (.iadd, 1) := by decide +kernel
theorem dX12_send_122 : decode cX12_send 122 = .ok (.iconst 0, 1) := by decide +kernel
theorem dX12_send_123 : decode cX12_send 123 = .ok (.iastore, 1) := by decide +kernel
theorem dX12_send_124 : decode cX12_send 124 = .ok (.aload_n 0, 1) := by decide +kernel
theorem dX12_send_125 : decode cX12_send 125 = .ok (.getfield 142, 3) := by decide +kernel
theorem dX12_send_128 : decode cX12_send 128 = .ok (.aload_n 0, 1) := by decide +kernel
theorem dX12_send_129 : decode cX12_send 129 = .ok (.getfield 290, 3) := by decide +kernel
theorem dX12_send_132 : decode cX12_send 132 = .ok (.iload_n 1, 1) := by decide +kernel
theorem dX12_send_133 : decode cX12_send 133 = .ok (.bipush 8, 2) := by decide +kernel
theorem dX12_send_135 : decode cX12_send 135 = .ok (.if_icmp .ne 10, 3) := by decide +kernel
theorem dX12_send_138 : decode cX12_send 138 = .ok (.aload_n 0, 1) := by decide +kernel
theorem dX12_send_139 : decode cX12_send 139 = .ok (.getfield 296, 3) := by decide +kernel
theorem dX12_send_142 : decode cX12_send 142 = .ok (.goto 4, 3) := by decide +kernel
theorem dX12_send_145 : decode cX12_send 145 = .ok (.iconst (-1), 1) := by decide +kernel
theorem dX12_send_146 : decode cX12_send 146 = .ok (.iastore, 1) := by decide +kernel
theorem dX12_send_147 : decode cX12_send 147 = .ok (.iload_n 1, 1) := by decide +kernel
theorem dX12_send_148 : decode cX12_send 148 = .ok (.bipush 8, 2) := by decide +kernel
theorem dX12_send_150 : decode cX12_send 150 = .ok (.if_icmp .ne 19, 3) := by decide +kernel
theorem dX12_send_153 : decode cX12_send 153 = .ok (.aload_n 0, 1) := by decide +kernel
theorem dX12_send_154 : decode cX12_send 154 = .ok (.iload_n 2, 1) := by decide +kernel
theorem dX12_send_155 : decode cX12_send 155 = .ok (.aload_n 0, 1) := by decide +kernel
theorem dX12_send_156 : decode cX12_send 156 = .ok (.getfield 139, 3) := by decide +kernel
theorem dX12_send_159 : decode cX12_send 159 = .ok (.bipush 100, 2) := by decide +kernel
theorem dX12_send_161 : decode cX12_send 161 = .ok (.aload_n 0, 1) := by decide +kernel
theorem dX12_send_162 : decode cX12_send 162 = .ok (.getfield 290, 3) := by decide +kernel
theorem dX12_send_165 : decode cX12_send 165 = .ok (.imul, 1) := by decide +kernel
theorem dX12_send_166 : decode cX12_send 166 = .ok (.invokevirtual 260, 3) := by decide +kernel
theorem dX12_send_169 : decode cX12_send 169 = .ok (.aload_n 0, 1) := by decide +kernel
theorem dX12_send_170 : decode cX12_send 170 = .ok (.dup, 1) := by decide +kernel
theorem dX12_send_171 : decode cX12_send 171 = .ok (.getfield 290, 3) := by decide +kernel
theorem dX12_send_174 : decode cX12_send 174 = .ok (.iconst 1, 1) := by decide +kernel
theorem dX12_send_175 : decode cX12_send 175 = .ok (.iadd, 1) := by decide +kernel
theorem dX12_send_176 : decode cX12_send 176 = .ok (.putfield 290, 3) := by decide +kernel
theorem dX12_send_179 : decode cX12_send 179 = .ok (.return_, 1) := by decide +kernel
theorem dX12_sendAll_0 : decode cX12_sendAll 0 = .ok (.iconst 0, 1) := by decide +kernel
theorem dX12_sendAll_1 : decode cX12_sendAll 1 = .ok (.istore 6, 2) := by decide +kernel
theorem dX12_sendAll_3 : decode cX12_sendAll 3 = .ok (.iload 6, 2) := by decide +kernel
theorem dX12_sendAll_5 : decode cX12_sendAll 5 = .ok (.aload_n 0, 1) := by decide +kernel
theorem dX12_sendAll_6 : decode cX12_sendAll 6 = .ok (.getfield 184, 3) := by decide +kernel
theorem dX12_sendAll_9 : decode cX12_sendAll 9 = .ok (.if_icmp .ge 29, 3) := by decide +kernel
theorem dX12_sendAll_12 : decode cX12_sendAll 12 = .ok (.iload 6, 2) := by decide +kernel
theorem dX12_sendAll_14 : decode cX12_sendAll 14 = .ok (.iload_n 2, 1) := by decide +kernel
theorem dX12_sendAll_15 : decode cX12_sendAll 15 = .ok (.if_icmp .eq 17, 3) := by decide +kernel
theorem dX12_sendAll_18 : decode cX12_sendAll 18 = .ok (.aload_n 0, 1) := by decide +kernel
theorem dX12_sendAll_19 : decode cX12_sendAll 19 = .ok (.iload_n 1, 1) := by decide +kernel
theorem dX12_sendAll_20 : decode cX12_sendAll 20 = .ok (.iload_n 2, 1) := by decide +kernel
theorem dX12_sendAll_21 : decode cX12_sendAll 21 = .ok (.iload 6, 2) := by decide +kernel
theorem dX12_sendAll_23 : decode cX12_sendAll 23 = .ok (.iload_n 3, 1) := by decide +kernel
theorem dX12_sendAll_24 : decode cX12_sendAll 24 = .ok (.iload 4, 2) := by decide +kernel
theorem dX12_sendAll_26 : decode cX12_sendAll 26 = .ok (.iload 5, 2) := by decide +kernel
theorem dX12_sendAll_28 : decode cX12_sendAll 28 = .ok (.iconst 0, 1) := by decide +kernel
theorem dX12_sendAll_29 : decode cX12_sendAll 29 = .ok (.invokevirtual 299, 3) := by decide +kernel
theorem dX12_sendAll_32 : decode cX12_sendAll 32 = .ok (.iinc 6 1, 3) := by decide +kernel
theorem dX12_sendAll_35 : decode cX12_sendAll 35 = .ok (.goto (-32), 3) := by decide +kernel
theorem dX12_sendAll_38 : decode cX12_sendAll 38 = .ok (.return_, 1) := by decide +kernel
theorem dX12_layFrame_0 : decode cX12_layFrame 0 = .ok (.bipush 8, 2) := by decide +kernel
theorem dX12_layFrame_2 : decode cX12_layFrame 2 = .ok (.iload_n 1, 1) := by decide +kernel
theorem dX12_layFrame_3 : decode cX12_layFrame 3 = .ok (.imul, 1) := by decide +kernel
theorem dX12_layFrame_4 : decode cX12_layFrame 4 = .ok (.istore_n 2, 1) := by decide +kernel
theorem dX12_layFrame_5 : decode cX12_layFrame 5 = .ok (.aload_n 0, 1) := by decide +kernel
theorem dX12_layFrame_6 : decode cX12_layFrame 6 = .ok (.getfield 136, 3) := by decide +kernel
theorem dX12_layFrame_9 : decode cX12_layFrame 9 = .ok (.iload_n 2, 1) := by decide +kernel
theorem dX12_layFrame_10 : decode cX12_layFrame 10 = .ok (.iaload, 1) := by decide +kernel
theorem dX12_layFrame_11 : decode cX12_layFrame 11 = .ok (.istore_n 3, 1) := by decide +kernel
theorem dX12_layFrame_12 : decode cX12_layFrame 12 = .ok (.iload_n 3, 1) := by decide +kernel
theorem dX12_layFrame_13 : decode cX12_layFrame 13 = .ok (.bipush 8, 2) := by decide +kernel
theorem dX12_layFrame_15 : decode cX12_layFrame 15 = .ok (.if_icmp .ne 18, 3) := by decide +kernel
theorem dX12_layFrame_18 : decode cX12_layFrame 18 = .ok (.aload_n 0, 1) := by decide +kernel
theorem dX12_layFrame_19 : decode cX12_layFrame 19 = .ok (.aload_n 0, 1) := by decide +kernel
theorem dX12_layFrame_20 : decode cX12_layFrame 20 = .ok (.getfield 139, 3) := by decide +kernel
theorem dX12_layFrame_23 : decode cX12_layFrame 23 = .ok (.bipush 100, 2) := by decide +kernel
theorem dX12_layFrame_25 : decode cX12_layFrame 25 = .ok (.iload_n 1, 1) := by decide +kernel
theorem dX12_layFrame_26 : decode cX12_layFrame 26 = .ok (.imul, 1) := by decide +kernel
theorem dX12_layFrame_27 : decode cX12_layFrame 27 = .ok (.invokevirtual 303, 3) := by decide +kernel
theorem dX12_layFrame_30 : decode cX12_layFrame 30 = .ok (.goto 4, 3) := by decide +kernel
theorem dX12_layFrame_33 : decode cX12_layFrame 33 = .ok (.iconst 0, 1) := by decide +kernel
theorem dX12_layFrame_34 : decode cX12_layFrame 34 = .ok (.istore 4, 2) := by decide +kernel
theorem dX12_layFrame_36 : decode cX12_layFrame 36 = .ok (.aload_n 0, 1) := by decide +kernel
theorem dX12_layFrame_37 : decode cX12_layFrame 37 = .ok (.iconst 0, 1) := by decide +kernel
theorem dX12_layFrame_38 : decode cX12_layFrame 38 = .ok (.putfield 218, 3) := by decide +kernel
theorem dX12_layFrame_41 : decode cX12_layFrame 41 = .ok (.aload_n 0, 1) := by decide +kernel
theorem dX12_layFrame_42 : decode cX12_layFrame 42 = .ok (.sipush 165, 3) := by decide +kernel
theorem dX12_layFrame_45 : decode cX12_layFrame 45 = .ok (.invokevirtual 221, 3) := by decide +kernel
theorem dX12_layFrame_48 : decode cX12_layFrame 48 = .ok (.aload_n 0, 1) := by decide +kernel
theorem dX12_layFrame_49 : decode cX12_layFrame 49 = .ok (.iload_n 3, 1) := by decide +kernel
theorem dX12_layFrame_50 : decode cX12_layFrame 50 = .ok (.invokevirtual 221, 3) := by decide +kernel
theorem dX12_layFrame_53 : decode cX12_layFrame 53 = .ok (.aload_n 0, 1) := by decide +kernel
theorem dX12_layFrame_54 : decode cX12_layFrame 54 = .ok (.bipush 16, 2) := by decide +kernel
theorem dX12_layFrame_56 : decode cX12_layFrame 56 = .ok (.aload_n 0, 1) := by decide +kernel
theorem dX12_layFrame_57 : decode cX12_layFrame 57 = .ok (.getfield 136, 3) := by decide +kernel
theorem dX12_layFrame_60 : decode cX12_layFrame 60 = .ok (.iload_n 2, 1) := by decide +kernel
theorem dX12_layFrame_61 : decode cX12_layFrame 61 = .ok (.iconst 1, 1) := by decide +kernel
theorem dX12_layFrame_62 : decode cX12_layFrame 62 = .ok (.iadd, 1) := by decide +kernel
theorem dX12_layFrame_63 : decode cX12_layFrame 63 = .ok (.iaload, 1) := by decide +kernel
theorem dX12_layFrame_64 : decode cX12_layFrame 64 = .ok (.imul, 1) := by decide +kernel
theorem dX12_layFrame_65 : decode cX12_layFrame 65 = .ok (.aload_n 0, 1) := by decide +kernel
theorem dX12_layFrame_66 : decode cX12_layFrame 66 = .ok (.getfield 136, 3) := by decide +kernel
theorem dX12_layFrame_69 : decode cX12_layFrame 69 = .ok (.iload_n 2, 1) := by decide +kernel
theorem dX12_layFrame_70 : decode cX12_layFrame 70 = .ok (.iconst 2, 1) := by decide +kernel
theorem dX12_layFrame_71 : decode cX12_layFrame 71 = .ok (.iadd, 1) := by decide +kernel
theorem dX12_layFrame_72 : decode cX12_layFrame 72 = .ok (.iaload, 1) := by decide +kernel
theorem dX12_layFrame_73 : decode cX12_layFrame 73 = .ok (.iadd, 1) := by decide +kernel
theorem dX12_layFrame_74 : decode cX12_layFrame 74 = .ok (.invokevirtual 221, 3) := by decide +kernel
theorem dX12_layFrame_77 : decode cX12_layFrame 77 = .ok (.aload_n 0, 1) := by decide +kernel
theorem dX12_layFrame_78 : decode cX12_layFrame 78 = .ok (.aload_n 0, 1) := by decide +kernel
theorem dX12_layFrame_79 : decode cX12_layFrame 79 = .ok (.getfield 136, 3) := by decide +kernel
theorem dX12_layFrame_82 : decode cX12_layFrame 82 = .ok (.iload_n 2, 1) := by decide +kernel
theorem dX12_layFrame_83 : decode cX12_layFrame 83 = .ok (.iconst 3, 1) := by decide +kernel
theorem dX12_layFrame_84 : decode cX12_layFrame 84 = .ok (.iadd, 1) := by decide +kernel
theorem dX12_layFrame_85 : decode cX12_layFrame 85 = .ok (.iaload, 1) := by decide +kernel
theorem dX12_layFrame_86 : decode cX12_layFrame 86 = .ok (.invokevirtual 228, 3) := by decide +kernel
theorem dX12_layFrame_89 : decode cX12_layFrame 89 = .ok (.aload_n 0, 1) := by decide +kernel
theorem dX12_layFrame_90 : decode cX12_layFrame 90 = .ok (.aload_n 0, 1) := by decide +kernel
theorem dX12_layFrame_91 : decode cX12_layFrame 91 = .ok (.getfield 136, 3) := by decide +kernel
theorem dX12_layFrame_94 : decode cX12_layFrame 94 = .ok (.iload_n 2, 1) := by decide +kernel
theorem dX12_layFrame_95 : decode cX12_layFrame 95 = .ok (.iconst 4, 1) := by decide +kernel
theorem dX12_layFrame_96 : decode cX12_layFrame 96 = .ok (.iadd, 1) := by decide +kernel
theorem dX12_layFrame_97 : decode cX12_layFrame 97 = .ok (.iaload, 1) := by decide +kernel
theorem dX12_layFrame_98 : decode cX12_layFrame 98 = .ok (.invokevirtual 228, 3) := by decide +kernel
theorem dX12_layFrame_101 : decode cX12_layFrame 101 = .ok (.iload_n 3, 1) := by decide +kernel
theorem dX12_layFrame_102 : decode cX12_layFrame 102 = .ok (.iconst 2, 1) := by decide +kernel
theorem dX12_layFrame_103 : decode cX12_layFrame 103 = .ok (.if_icmp .ne 23, 3) := by decide +kernel
theorem dX12_layFrame_106 : decode cX12_layFrame 106 = .ok (.aload_n 0, 1) := by decide +kernel
theorem dX12_layFrame_107 : decode cX12_layFrame 107 = .ok (.aload_n 0, 1) := by decide +kernel
theorem dX12_layFrame_108 : decode cX12_layFrame 108 = .ok (.getfield 136, 3) := by decide +kernel
theorem dX12_layFrame_111 : decode cX12_layFrame 111 = .ok (.iload_n 2, 1) := by decide +kernel
theorem dX12_layFrame_112 : decode cX12_layFrame 112 = .ok (.iconst 5, 1) := by decide +kernel
theorem dX12_layFrame_113 : decode cX12_layFrame 113 = .ok (.iadd, 1) := by decide +kernel
theorem dX12_layFrame_114 : decode cX12_layFrame 114 = .ok (.iaload, 1) := by decide +kernel
theorem dX12_layFrame_115 : decode cX12_layFrame 115 = .ok (.ifCond .le 7, 3) := by decide +kernel
theorem dX12_layFrame_118 : decode cX12_layFrame 118 = .ok (.iconst 1, 1) := by decide +kernel
theorem dX12_layFrame_119 : decode cX12_layFrame 119 = .ok (.goto 4, 3) := by decide +kernel
theorem dX12_layFrame_122 : decode cX12_layFrame 122 = .ok (.iconst 0, 1) := by decide +kernel
theorem dX12_layFrame_123 : decode cX12_layFrame 123 = .ok (.invokevirtual 221, 3) := by decide +kernel
theorem dX12_layFrame_126 : decode cX12_layFrame 126 = .ok (.iload_n 3, 1) := by decide +kernel
theorem dX12_layFrame_127 : decode cX12_layFrame 127 = .ok (.iconst 2, 1) := by decide +kernel
theorem dX12_layFrame_128 : decode cX12_layFrame 128 = .ok (.if_icmp .ne 27, 3) := by decide +kernel
theorem dX12_layFrame_131 : decode cX12_layFrame 131 = .ok (.aload_n 0, 1) := by decide +kernel
theorem dX12_layFrame_132 : decode cX12_layFrame 132 = .ok (.getfield 136, 3) := by decide +kernel
theorem dX12_layFrame_135 : decode cX12_layFrame 135 = .ok (.iload_n 2, 1) := by decide +kernel
theorem dX12_layFrame_136 : decode cX12_layFrame 136 = .ok (.iconst 5, 1) := by decide +kernel
theorem dX12_layFrame_137 : decode cX12_layFrame 137 = .ok (.iadd, 1) := by decide +kernel
theorem dX12_layFrame_138 : decode cX12_layFrame 138 = .ok (.iaload, 1) := by decide +kernel
theorem dX12_layFrame_139 : decode cX12_layFrame 139 = .ok (.ifCond .le 16, 3) := by decide +kernel
theorem dX12_layFrame_142 : decode cX12_layFrame 142 = .ok (.aload_n 0, 1) := by decide +kernel
theorem dX12_layFrame_143 : decode cX12_layFrame 143 = .ok (.aload_n 0, 1) := by decide +kernel
theorem dX12_layFrame_144 : decode cX12_layFrame 144 = .ok (.getfield 136, 3) := by decide +kernel
theorem dX12_layFrame_147 : decode cX12_layFrame 147 = .ok (.iload_n 2, 1) := by decide +kernel
theorem dX12_layFrame_148 : decode cX12_layFrame 148 = .ok (.bipush 6, 2) := by decide +kernel
theorem dX12_layFrame_150 : decode cX12_layFrame 150 = .ok (.iadd, 1) := by decide +kernel
theorem dX12_layFrame_151 : decode cX12_layFrame 151 = .ok (.iaload, 1) := by decide +kernel
theorem dX12_layFrame_152 : decode cX12_layFrame 152 = .ok (.invokevirtual 228, 3) := by decide +kernel
theorem dX12_layFrame_155 : decode cX12_layFrame 155 = .ok (.aload_n 0, 1) := by decide +kernel
theorem dX12_layFrame_156 : decode cX12_layFrame 156 = .ok (.getfield 136, 3) := by decide +kernel
theorem dX12_layFrame_159 : decode cX12_layFrame 159 = .ok (.iload_n 2, 1) := by decide +kernel
theorem dX12_layFrame_160 : decode cX12_layFrame 160 = .ok (.iconst 5, 1) := by decide +kernel
theorem dX12_layFrame_161 : decode cX12_layFrame 161 = .ok (.iadd, 1) := by decide +kernel
theorem dX12_layFrame_162 : decode cX12_layFrame 162 = .ok (.iaload, 1) := by decide +kernel
theorem dX12_layFrame_163 : decode cX12_layFrame 163 = .ok (.ifCond .le 15, 3) := by decide +kernel
theorem dX12_layFrame_166 : decode cX12_layFrame 166 = .ok (.aload_n 0, 1) := by decide +kernel
theorem dX12_layFrame_167 : decode cX12_layFrame 167 = .ok (.aload_n 0, 1) := by decide +kernel
theorem dX12_layFrame_168 : decode cX12_layFrame 168 = .ok (.getfield 136, 3) := by decide +kernel
theorem dX12_layFrame_171 : decode cX12_layFrame 171 = .ok (.iload_n 2, 1) := by decide +kernel
theorem dX12_layFrame_172 : decode cX12_layFrame 172 = .ok (.iconst 5, 1) := by decide +kernel
theorem dX12_layFrame_173 : decode cX12_layFrame 173 = .ok (.iadd, 1) := by decide +kernel
theorem dX12_layFrame_174 : decode cX12_layFrame 174 = .ok (.iaload, 1) := by decide +kernel
theorem dX12_layFrame_175 : decode cX12_layFrame 175 = .ok (.invokevirtual 257, 3) := by decide +kernel
theorem dX12_layFrame_178 : decode cX12_layFrame 178 = .ok (.iload_n 3, 1) := by decide +kernel
theorem dX12_layFrame_179 : decode cX12_layFrame 179 = .ok (.bipush 8, 2) := by decide +kernel
theorem dX12_layFrame_181 : decode cX12_layFrame 181 = .ok (.if_icmp .ne 104, 3) := by decide +kernel
theorem dX12_layFrame_184 : decode cX12_layFrame 184 = .ok (.iload 4, 2) := by decide +kernel
theorem dX12_layFrame_186 : decode cX12_layFrame 186 = .ok (.bipush 64, 2) := by decide +kernel
theorem dX12_layFrame_188 : decode cX12_layFrame 188 = .ok (.aload_n 0, 1) := by decide +kernel
theorem dX12_layFrame_189 : decode cX12_layFrame 189 = .ok (.getfield 142, 3) := by decide +kernel
theorem dX12_layFrame_192 : decode cX12_layFrame 192 = .ok (.iload_n 1, 1) := by decide +kernel
theorem dX12_layFrame_193 : decode cX12_layFrame 193 = .ok (.iaload, 1) := by decide +kernel
theorem dX12_layFrame_194 : decode cX12_layFrame 194 = .ok (.imul, 1) := by decide +kernel
theorem dX12_layFrame_195 : decode cX12_layFrame 195 = .ok (.isub, 1) := by decide +kernel
theorem dX12_layFrame_196 : decode cX12_layFrame 196 = .ok (.bipush 64, 2) := by decide +kernel
theorem dX12_layFrame_198 : decode cX12_layFrame 198 = .ok (.if_icmp .ge 18, 3) := by decide +kernel
theorem dX12_layFrame_201 : decode cX12_layFrame 201 = .ok (.iload 4, 2) := by decide +kernel
theorem dX12_layFrame_203 : decode cX12_layFrame 203 = .ok (.bipush 64, 2) := by decide +kernel
theorem dX12_layFrame_205 : decode cX12_layFrame 205 = .ok (.aload_n 0, 1) := by decide +kernel
theorem dX12_layFrame_206 : decode cX12_layFrame 206 = .ok (.getfield 142, 3) := by decide +kernel
theorem dX12_layFrame_209 : decode cX12_layFrame 209 = .ok (.iload_n 1, 1) := by decide +kernel
theorem dX12_layFrame_210 : decode cX12_layFrame 210 = .ok (.iaload, 1) := by decide +kernel
theorem dX12_layFrame_211 : decode cX12_layFrame 211 = .ok (.imul, 1) := by decide +kernel
theorem dX12_layFrame_212 : decode cX12_layFrame 212 = .ok (.isub, 1) := by decide +kernel
theorem dX12_layFrame_213 : decode cX12_layFrame 213 = .ok (.goto 5, 3) := by decide +kernel
theorem dX12_layFrame_216 : decode cX12_layFrame 216 = .ok (.bipush 64, 2) := by decide +kernel
theorem dX12_layFrame_218 : decode cX12_layFrame 218 = .ok (.istore 5, 2) := by decide +kernel
theorem dX12_layFrame_220 : decode cX12_layFrame 220 = .ok (.aload_n 0, 1) := by decide +kernel
theorem dX12_layFrame_221 : decode cX12_layFrame 221 = .ok (.aload_n 0, 1) := by decide +kernel
theorem dX12_layFrame_222 : decode cX12_layFrame 222 = .ok (.getfield 142, 3) := by decide +kernel
theorem dX12_layFrame_225 : decode cX12_layFrame 225 = .ok (.iload_n 1, 1) := by decide +kernel
theorem dX12_layFrame_226 : decode cX12_layFrame 226 = .ok (.iaload, 1) := by decide +kernel
theorem dX12_layFrame_227 : decode cX12_layFrame 227 = .ok (.invokevirtual 221, 3) := by decide +kernel
theorem dX12_layFrame_230 : decode cX12_layFrame 230 = .ok (.aload_n 0, 1) := by decide +kernel
theorem dX12_layFrame_231 : decode cX12_layFrame 231 = .ok (.iload 4, 2) := by decide +kernel
theorem dX12_layFrame_233 : decode cX12_layFrame 233 = .ok (.bipush 63, 2) := by decide +kernel
theorem dX12_layFrame_235 : decode cX12_layFrame 235 = .ok (.iadd, 1) := by decide +kernel
theorem dX12_layFrame_236 : decode cX12_layFrame 236 = .ok (.bipush 64, 2) := by decide +kernel
theorem dX12_layFrame_238 : decode cX12_layFrame 238 = .ok (.idiv, 1) := by decide +kernel
theorem dX12_layFrame_239 : decode cX12_layFrame 239 = .ok (.invokevirtual 221, 3) := by decide +kernel
theorem dX12_layFrame_242 : decode cX12_layFrame 242 = .ok (.aload_n 0, 1) := by decide +kernel
theorem dX12_layFrame_243 : decode cX12_layFrame 243 = .ok (.iload 5, 2) := by decide +kernel
theorem dX12_layFrame_245 : decode cX12_layFrame 245 = .ok (.invokevirtual 221, 3) := by decide +kernel
theorem dX12_layFrame_248 : decode cX12_layFrame 248 = .ok (.iconst 0, 1) := by decide +kernel
theorem dX12_layFrame_249 : decode cX12_layFrame 249 = .ok (.istore 6, 2) := by decide +kernel
theorem dX12_layFrame_251 : decode cX12_layFrame 251 = .ok (.iload 6, 2) := by decide +kernel
theorem dX12_layFrame_253 : decode cX12_layFrame 253 = .ok (.iload 5, 2) := by decide +kernel
theorem dX12_layFrame_255 : decode cX12_layFrame 255 = .ok (.if_icmp .ge 30, 3) := by decide +kernel
theorem dX12_layFrame_258 : decode cX12_layFrame 258 = .ok (.aload_n 0, 1) := by decide +kernel
theorem dX12_layFrame_259 : decode cX12_layFrame 259 = .ok (.aload_n 0, 1) := by decide +kernel
theorem dX12_layFrame_260 : decode cX12_layFrame 260 = .ok (.getfield 145, 3) := by decide +kernel
theorem dX12_layFrame_263 : decode cX12_layFrame 263 = .ok (.bipush 64, 2) := by decide +kernel
theorem dX12_layFrame_265 : decode cX12_layFrame 265 = .ok (.aload_n 0, 1) := by decide +kernel
theorem dX12_layFrame_266 : decode cX12_layFrame 266 = .ok (.getfield 142, 3) := by decide +kernel
theorem dX12_layFrame_269 : decode cX12_layFrame 269 = .ok (.iload_n 1, 1) := by decide +kernel
theorem dX12_layFrame_270 : decode cX12_layFrame 270 = .ok (.iaload, 1) := by decide +kernel
theorem dX12_layFrame_271 : decode cX12_layFrame 271 = .ok (.imul, 1) := by decide +kernel
theorem dX12_layFrame_272 : decode cX12_layFrame 272 = .ok (.iload 6, 2) := by decide +kernel
theorem dX12_layFrame_274 : decode cX12_layFrame 274 = .ok (.iadd, 1) := by decide +kernel
theorem dX12_layFrame_275 : decode cX12_layFrame 275 = .ok (.iaload, 1) := by decide +kernel
theorem dX12_layFrame_276 : decode cX12_layFrame 276 = .ok (.invokevirtual 221, 3) := by decide +kernel
theorem dX12_layFrame_279 : decode cX12_layFrame 279 = .ok (.iinc 6 1, 3) := by decide +kernel
theorem dX12_layFrame_282 : decode cX12_layFrame 282 = .ok (.goto (-31), 3) := by decide +kernel
theorem dX12_layFrame_285 : decode cX12_layFrame 285 = .ok (.aload_n 0, 1) := by decide +kernel
theorem dX12_layFrame_286 : decode cX12_layFrame 286 = .ok (.iconst 0, 1) := by decide +kernel
theorem dX12_layFrame_287 : decode cX12_layFrame 287 = .ok (.invokevirtual 235, 3) := by decide +kernel
theorem dX12_layFrame_290 : decode cX12_layFrame 290 = .ok (.aload_n 0, 1) := by decide +kernel
theorem dX12_layFrame_291 : decode cX12_layFrame 291 = .ok (.getfield 136, 3) := by decide +kernel
theorem dX12_layFrame_294 : decode cX12_layFrame 294 = .ok (.iload_n 2, 1) := by decide +kernel
theorem dX12_layFrame_295 : decode cX12_layFrame 295 = .ok (.bipush 7, 2) := by decide +kernel
theorem dX12_layFrame_297 : decode cX12_layFrame 297 = .ok (.iadd, 1) := by decide +kernel
theorem dX12_layFrame_298 : decode cX12_layFrame 298 = .ok (.iaload, 1) := by decide +kernel
theorem dX12_layFrame_299 : decode cX12_layFrame 299 = .ok (.ifCond .le 36, 3) := by decide +kernel
theorem dX12_layFrame_302 : decode cX12_layFrame 302 = .ok (.aload_n 0, 1) := by decide +kernel
theorem dX12_layFrame_303 : decode cX12_layFrame 303 = .ok (.getfield 136, 3) := by decide +kernel
theorem dX12_layFrame_306 : decode cX12_layFrame 306 = .ok (.iload_n 2, 1) := by decide +kernel
theorem dX12_layFrame_307 : decode cX12_layFrame 307 = .ok (.bipush 7, 2) := by decide +kernel
theorem dX12_layFrame_309 : decode cX12_layFrame 309 = .ok (.iadd, 1) := by decide +kernel
theorem dX12_layFrame_310 : decode cX12_layFrame 310 = .ok (.iaload, 1) := by decide +kernel
theorem dX12_layFrame_311 : decode cX12_layFrame 311 = .ok (.iconst 1, 1) := by decide +kernel
theorem dX12_layFrame_312 : decode cX12_layFrame 312 = .ok (.isub, 1) := by decide +kernel
theorem dX12_layFrame_313 : decode cX12_layFrame 313 = .ok (.istore 5, 2) := by decide +kernel
theorem dX12_layFrame_315 : decode cX12_layFrame 315 = .ok (.aload_n 0, 1) := by decide +kernel
theorem dX12_layFrame_316 : decode cX12_layFrame 316 = .ok (.getfield 133, 3) := by decide +kernel
theorem dX12_layFrame_319 : decode cX12_layFrame 319 = .ok (.iload 5, 2) := by decide +kernel
theorem dX12_layFrame_321 : decode cX12_layFrame 321 = .ok (.bipush 8, 2) := by decide +kernel
theorem dX12_layFrame_323 : decode cX12_layFrame 323 = .ok (.idiv, 1) := by decide +kernel
theorem dX12_layFrame_324 : decode cX12_layFrame 324 = .ok (.dup2, 1) := by decide +kernel
theorem dX12_layFrame_325 : decode cX12_layFrame 325 = .ok (.iaload, 1) := by decide +kernel
theorem dX12_layFrame_326 : decode cX12_layFrame 326 = .ok (.iconst 1, 1) := by decide +kernel
theorem dX12_layFrame_327 : decode cX12_layFrame 327 = .ok (.iload 5, 2) := by decide +kernel
theorem dX12_layFrame_329 : decode cX12_layFrame 329 = .ok (.bipush 8, 2) := by decide +kernel
theorem dX12_layFrame_331 : decode cX12_layFrame 331 = .ok (.irem, 1) := by decide +kernel
theorem dX12_layFrame_332 : decode cX12_layFrame 332 = .ok (.ishl, 1) := by decide +kernel
theorem dX12_layFrame_333 : decode cX12_layFrame 333 = .ok (.ixor, 1) := by decide +kernel
theorem dX12_layFrame_334 : decode cX12_layFrame 334 = .ok (.iastore, 1) := by decide +kernel
theorem dX12_layFrame_335 : decode cX12_layFrame 335 = .ok (.return_, 1) := by decide +kernel
theorem dX12_layWhole_0 : decode cX12_layWhole 0 = .ok (.aload_n 0, 1) := by decide +kernel
theorem dX12_layWhole_1 : decode cX12_layWhole 1 = .ok (.iconst 0, 1) := by decide +kernel
theorem dX12_layWhole_2 : decode cX12_layWhole 2 = .ok (.putfield 218, 3) := by decide +kernel
theorem dX12_layWhole_5 : decode cX12_layWhole 5 = .ok (.aload_n 0, 1) := by decide +kernel
theorem dX12_layWhole_6 : decode cX12_layWhole 6 = .ok (.aload_n 1, 1) := by decide +kernel
theorem dX12_layWhole_7 : decode cX12_layWhole 7 = .ok (.iload_n 2, 1) := by decide +kernel
theorem dX12_layWhole_8 : decode cX12_layWhole 8 = .ok (.invokevirtual 264, 3) := by decide +kernel
theorem dX12_layWhole_11 : decode cX12_layWhole 11 = .ok (.iconst 0, 1) := by decide +kernel
theorem dX12_layWhole_12 : decode cX12_layWhole 12 = .ok (.istore_n 3, 1) := by decide +kernel
theorem dX12_layWhole_13 : decode cX12_layWhole 13 = .ok (.iload_n 3, 1) := by decide +kernel
theorem dX12_layWhole_14 : decode cX12_layWhole 14 = .ok (.aload_n 0, 1) := by decide +kernel
theorem dX12_layWhole_15 : decode cX12_layWhole 15 = .ok (.getfield 218, 3) := by decide +kernel
theorem dX12_layWhole_18 : decode cX12_layWhole 18 = .ok (.if_icmp .ge 21, 3) := by decide +kernel
theorem dX12_layWhole_21 : decode cX12_layWhole 21 = .ok (.aload_n 0, 1) := by decide +kernel
theorem dX12_layWhole_22 : decode cX12_layWhole 22 = .ok (.getfield 145, 3) := by decide +kernel
theorem dX12_layWhole_25 : decode cX12_layWhole 25 = .ok (.iload_n 3, 1) := by decide +kernel
theorem dX12_layWhole_26 : decode cX12_layWhole 26 = .ok (.aload_n 0, 1) := by decide +kernel
theorem dX12_layWhole_27 : decode cX12_layWhole 27 = .ok (.getfield 133, 3) := by decide +kernel
theorem dX12_layWhole_30 : decode cX12_layWhole 30 = .ok (.iload_n 3, 1) := by decide +kernel
theorem dX12_layWhole_31 : decode cX12_layWhole 31 = .ok (.iaload, 1) := by decide +kernel
theorem dX12_layWhole_32 : decode cX12_layWhole 32 = .ok (.iastore, 1) := by decide +kernel
theorem dX12_layWhole_33 : decode cX12_layWhole 33 = .ok (.iinc 3 1, 3) := by decide +kernel
theorem dX12_layWhole_36 : decode cX12_layWhole 36 = .ok (.goto (-23), 3) := by decide +kernel
theorem dX12_layWhole_39 : decode cX12_layWhole 39 = .ok (.aload_n 0, 1) := by decide +kernel
theorem dX12_layWhole_40 : decode cX12_layWhole 40 = .ok (.getfield 218, 3) := by decide +kernel
theorem dX12_layWhole_43 : decode cX12_layWhole 43 = .ok (.ireturn, 1) := by decide +kernel
theorem dX12_store_0 : decode cX12_store 0 = .ok (.aload_n 2, 1) := by decide +kernel
theorem dX12_store_1 : decode cX12_store 1 = .ok (.iload_n 3, 1) := by decide +kernel
theorem dX12_store_2 : decode cX12_store 2 = .ok (.aload_n 0, 1) := by decide +kernel
theorem dX12_store_3 : decode cX12_store 3 = .ok (.getfield 37, 3) := by decide +kernel
theorem dX12_store_6 : decode cX12_store 6 = .ok (.iload_n 1, 1) := by decide +kernel
theorem dX12_store_7 : decode cX12_store 7 = .ok (.iaload, 1) := by decide +kernel
theorem dX12_store_8 : decode cX12_store 8 = .ok (.iastore, 1) := by decide +kernel
theorem dX12_store_9 : decode cX12_store 9 = .ok (.iconst 0, 1) := by decide +kernel
theorem dX12_store_10 : decode cX12_store 10 = .ok (.istore 4, 2) := by decide +kernel
theorem dX12_store_12 : decode cX12_store 12 = .ok (.iload 4, 2) := by decide +kernel
theorem dX12_store_14 : decode cX12_store 14 = .ok (.bipush 16, 2) := by decide +kernel
theorem dX12_store_16 : decode cX12_store 16 = .ok (.if_icmp .ge 80, 3) := by decide +kernel
theorem dX12_store_19 : decode cX12_store 19 = .ok (.aload_n 2, 1) := by decide +kernel
theorem dX12_store_20 : decode cX12_store 20 = .ok (.iload_n 3, 1) := by decide +kernel
theorem dX12_store_21 : decode cX12_store 21 = .ok (.iconst 1, 1) := by decide +kernel
theorem dX12_store_22 : decode cX12_store 22 = .ok (.iadd, 1) := by decide +kernel
theorem dX12_store_23 : decode cX12_store 23 = .ok (.iload 4, 2) := by decide +kernel
theorem dX12_store_25 : decode cX12_store 25 = .ok (.iadd, 1) := by decide +kernel
theorem dX12_store_26 : decode cX12_store 26 = .ok (.aload_n 0, 1) := by decide +kernel
theorem dX12_store_27 : decode cX12_store 27 = .ok (.getfield 58, 3) := by decide +kernel
theorem dX12_store_30 : decode cX12_store 30 = .ok (.bipush 16, 2) := by decide +kernel
theorem dX12_store_32 : decode cX12_store 32 = .ok (.iload_n 1, 1) := by decide +kernel
theorem dX12_store_33 : decode cX12_store 33 = .ok (.aload_n 0, 1) := by decide +kernel
theorem dX12_store_34 : decode cX12_store 34 = .ok (.getfield 37, 3) := by decide +kernel
theorem dX12_store_37 : decode cX12_store 37 = .ok (.iload_n 1, 1) := by decide +kernel
theorem dX12_store_38 : decode cX12_store 38 = .ok (.iaload, 1) := by decide +kernel
theorem dX12_store_39 : decode cX12_store 39 = .ok (.invokestatic 211, 3) := by decide +kernel
theorem dX12_store_42 : decode cX12_store 42 = .ok (.imul, 1) := by decide +kernel
theorem dX12_store_43 : decode cX12_store 43 = .ok (.iload 4, 2) := by decide +kernel
theorem dX12_store_45 : decode cX12_store 45 = .ok (.iadd, 1) := by decide +kernel
theorem dX12_store_46 : decode cX12_store 46 = .ok (.iaload, 1) := by decide +kernel
theorem dX12_store_47 : decode cX12_store 47 = .ok (.iastore, 1) := by decide +kernel
theorem dX12_store_48 : decode cX12_store 48 = .ok (.aload_n 2, 1) := by decide +kernel
theorem dX12_store_49 : decode cX12_store 49 = .ok (.iload_n 3, 1) := by decide +kernel
theorem dX12_store_50 : decode cX12_store 50 = .ok (.bipush 17, 2) := by decide +kernel
theorem dX12_store_52 : decode cX12_store 52 = .ok (.iadd, 1) := by decide +kernel
theorem dX12_store_53 : decode cX12_store 53 = .ok (.iload 4, 2) := by decide +kernel
theorem dX12_store_55 : decode cX12_store 55 = .ok (.iadd, 1) := by decide +kernel
theorem dX12_store_56 : decode cX12_store 56 = .ok (.aload_n 0, 1) := by decide +kernel
theorem dX12_store_57 : decode cX12_store 57 = .ok (.getfield 67, 3) := by decide +kernel
theorem dX12_store_60 : decode cX12_store 60 = .ok (.bipush 16, 2) := by decide +kernel
theorem dX12_store_62 : decode cX12_store 62 = .ok (.iload_n 1, 1) := by decide +kernel
theorem dX12_store_63 : decode cX12_store 63 = .ok (.imul, 1) := by decide +kernel
theorem dX12_store_64 : decode cX12_store 64 = .ok (.iload 4, 2) := by decide +kernel
theorem dX12_store_66 : decode cX12_store 66 = .ok (.iadd, 1) := by decide +kernel
theorem dX12_store_67 : decode cX12_store 67 = .ok (.iaload, 1) := by decide +kernel
theorem dX12_store_68 : decode cX12_store 68 = .ok (.iastore, 1) := by decide +kernel
theorem dX12_store_69 : decode cX12_store 69 = .ok (.aload_n 2, 1) := by decide +kernel
theorem dX12_store_70 : decode cX12_store 70 = .ok (.iload_n 3, 1) := by decide +kernel
theorem dX12_store_71 : decode cX12_store 71 = .ok (.bipush 33, 2) := by decide +kernel
theorem dX12_store_73 : decode cX12_store 73 = .ok (.iadd, 1) := by decide +kernel
theorem dX12_store_74 : decode cX12_store 74 = .ok (.iload 4, 2) := by decide +kernel
theorem dX12_store_76 : decode cX12_store 76 = .ok (.iadd, 1) := by decide +kernel
theorem dX12_store_77 : decode cX12_store 77 = .ok (.aload_n 0, 1) := by decide +kernel
theorem dX12_store_78 : decode cX12_store 78 = .ok (.getfield 70, 3) := by decide +kernel
theorem dX12_store_81 : decode cX12_store 81 = .ok (.bipush 16, 2) := by decide +kernel
theorem dX12_store_83 : decode cX12_store 83 = .ok (.iload_n 1, 1) := by decide +kernel
theorem dX12_store_84 : decode cX12_store 84 = .ok (.imul, 1) := by decide +kernel
theorem dX12_store_85 : decode cX12_store 85 = .ok (.iload 4, 2) := by decide +kernel
theorem dX12_store_87 : decode cX12_store 87 = .ok (.iadd, 1) := by decide +kernel
theorem dX12_store_88 : decode cX12_store 88 = .ok (.iaload, 1) := by decide +kernel
theorem dX12_store_89 : decode cX12_store 89 = .ok (.iastore, 1) := by decide +kernel
theorem dX12_store_90 : decode cX12_store 90 = .ok (.iinc 4 1, 3) := by decide +kernel
theorem dX12_store_93 : decode cX12_store 93 = .ok (.goto (-81), 3) := by decide +kernel
theorem dX12_store_96 : decode cX12_store 96 = .ok (.iconst 0, 1) := by decide +kernel
theorem dX12_store_97 : decode cX12_store 97 = .ok (.istore 4, 2) := by decide +kernel
theorem dX12_store_99 : decode cX12_store 99 = .ok (.iload 4, 2) := by decide +kernel
theorem dX12_store_101 : decode cX12_store 101 = .ok (.bipush 17, 2) := by decide +kernel
theorem dX12_store_103 : decode cX12_store 103 = .ok (.if_icmp .ge 62, 3) := by decide +kernel
theorem dX12_store_106 : decode cX12_store 106 = .ok (.aload_n 2, 1) := by decide +kernel
theorem dX12_store_107 : decode cX12_store 107 = .ok (.iload_n 3, 1) := by decide +kernel
theorem dX12_store_108 : decode cX12_store 108 = .ok (.bipush 49, 2) := by decide +kernel
theorem dX12_store_110 : decode cX12_store 110 = .ok (.iadd, 1) := by decide +kernel
theorem dX12_store_111 : decode cX12_store 111 = .ok (.iload 4, 2) := by decide +kernel
theorem dX12_store_113 : decode cX12_store 113 = .ok (.iadd, 1) := by decide +kernel
theorem dX12_store_114 : decode cX12_store 114 = .ok (.aload_n 0, 1) := by decide +kernel
theorem dX12_store_115 : decode cX12_store 115 = .ok (.getfield 37, 3) := by decide +kernel
theorem dX12_store_118 : decode cX12_store 118 = .ok (.iload_n 1, 1) := by decide +kernel
theorem dX12_store_119 : decode cX12_store 119 = .ok (.iaload, 1) := by decide +kernel
theorem dX12_store_120 : decode cX12_store 120 = .ok (.iload 4, 2) := by decide +kernel
theorem dX12_store_122 : decode cX12_store 122 = .ok (.isub, 1) := by decide +kernel
theorem dX12_store_123 : decode cX12_store 123 = .ok (.iconst 1, 1) := by decide +kernel
theorem dX12_store_124 : decode cX12_store 124 = .ok (.if_icmp .lt 12, 3) := by decide +kernel
theorem dX12_store_127 : decode cX12_store 127 = .ok (.iload 4, 2) := by decide +kernel
theorem dX12_store_129 : decode cX12_store 129 = .ok (.aload_n 0, 1) := by decide +kernel
theorem dX12_store_130 : decode cX12_store 130 = .ok (.getfield 190, 3) := by decide +kernel
theorem dX12_store_133 : decode cX12_store 133 = .ok (.if_icmp .lt 7, 3) := by decide +kernel
theorem dX12_store_136 : decode cX12_store 136 = .ok (.iconst 0, 1) := by decide +kernel
theorem dX12_store_137 : decode cX12_store 137 = .ok (.goto 21, 3) := by decide +kernel
theorem dX12_store_140 : decode cX12_store 140 = .ok (.aload_n 0, 1) := by decide +kernel
theorem dX12_store_141 : decode cX12_store 141 = .ok (.getfield 61, 3) := by decide +kernel
theorem dX12_store_144 : decode cX12_store 144 = .ok (.iload_n 1, 1) := by decide +kernel
theorem dX12_store_145 : decode cX12_store 145 = .ok (.aload_n 0, 1) := by decide +kernel
theorem dX12_store_146 : decode cX12_store 146 = .ok (.getfield 37, 3) := by decide +kernel
theorem dX12_store_149 : decode cX12_store 149 = .ok (.iload_n 1, 1) := by decide +kernel
theorem dX12_store_150 : decode cX12_store 150 = .ok (.iaload, 1) := by decide +kernel
theorem dX12_store_151 : decode cX12_store 151 = .ok (.iload 4, 2) := by decide +kernel
theorem dX12_store_153 : decode cX12_store 153 = .ok (.isub, 1) := by decide +kernel
theorem dX12_store_154 : decode cX12_store 154 = .ok (.invokestatic 211, 3) := by decide +kernel
theorem dX12_store_157 : decode cX12_store 157 = .ok (.iaload, 1) := by decide +kernel
theorem dX12_store_158 : decode cX12_store 158 = .ok (.iastore, 1) := by decide +kernel
theorem dX12_store_159 : decode cX12_store 159 = .ok (.iinc 4 1, 3) := by decide +kernel
theorem dX12_store_162 : decode cX12_store 162 = .ok (.goto (-63), 3) := by decide +kernel
theorem dX12_store_165 : decode cX12_store 165 = .ok (.return_, 1) := by decide +kernel
theorem dX12_restore_0 : decode cX12_restore 0 = .ok (.aload_n 0, 1) := by decide +kernel
theorem dX12_restore_1 : decode cX12_restore 1 = .ok (.getfield 37, 3) := by decide +kernel
theorem dX12_restore_4 : decode cX12_restore 4 = .ok (.iload_n 1, 1) := by decide +kernel
theorem dX12_restore_5 : decode cX12_restore 5 = .ok (.aload_n 2, 1) := by decide +kernel
theorem dX12_restore_6 : decode cX12_restore 6 = .ok (.iload_n 3, 1) := by decide +kernel
theorem dX12_restore_7 : decode cX12_restore 7 = .ok (.iaload, 1) := by decide +kernel
theorem dX12_restore_8 : decode cX12_restore 8 = .ok (.iastore, 1) := by decide +kernel
theorem dX12_restore_9 : decode cX12_restore 9 = .ok (.aload_n 0, 1) := by decide +kernel
theorem dX12_restore_10 : decode cX12_restore 10 = .ok (.getfield 40, 3) := by decide +kernel
theorem dX12_restore_13 : decode cX12_restore 13 = .ok (.iload_n 1, 1) := by decide +kernel
theorem dX12_restore_14 : decode cX12_restore 14 = .ok (.aload_n 0, 1) := by decide +kernel
theorem dX12_restore_15 : decode cX12_restore 15 = .ok (.getfield 37, 3) := by decide +kernel
theorem dX12_restore_18 : decode cX12_restore 18 = .ok (.iload_n 1, 1) := by decide +kernel
theorem dX12_restore_19 : decode cX12_restore 19 = .ok (.iaload, 1) := by decide +kernel
theorem dX12_restore_20 : decode cX12_restore 20 = .ok (.iastore, 1) := by decide +kernel
theorem dX12_restore_21 : decode cX12_restore 21 = .ok (.aload_n 0, 1) := by decide +kernel
theorem dX12_restore_22 : decode cX12_restore 22 = .ok (.getfield 43, 3) := by decide +kernel
theorem dX12_restore_25 : decode cX12_restore 25 = .ok (.iload_n 1, 1) := by decide +kernel
theorem dX12_restore_26 : decode cX12_restore 26 = .ok (.aload_n 0, 1) := by decide +kernel
theorem dX12_restore_27 : decode cX12_restore 27 = .ok (.getfield 37, 3) := by decide +kernel
theorem dX12_restore_30 : decode cX12_restore 30 = .ok (.iload_n 1, 1) := by decide +kernel
theorem dX12_restore_31 : decode cX12_restore 31 = .ok (.iaload, 1) := by decide +kernel
theorem dX12_restore_32 : decode cX12_restore 32 = .ok (.iastore, 1) := by decide +kernel
theorem dX12_restore_33 : decode cX12_restore 33 = .ok (.iconst 0, 1) := by decide +kernel
theorem dX12_restore_34 : decode cX12_restore 34 = .ok (.istore 4, 2) := by decide +kernel
theorem dX12_restore_36 : decode cX12_restore 36 = .ok (.iload 4, 2) := by decide +kernel
theorem dX12_restore_38 : decode cX12_restore 38 = .ok (.bipush 16, 2) := by decide +kernel
theorem dX12_restore_40 : decode cX12_restore 40 = .ok (.if_icmp .ge 80, 3) := by decide +kernel
theorem dX12_restore_43 : decode cX12_restore 43 = .ok (.aload_n 0, 1) := by decide +kernel
theorem dX12_restore_44 : decode cX12_restore 44 = .ok (.getfield 58, 3) := by decide +kernel
theorem dX12_restore_47 : decode cX12_restore 47 = .ok (.bipush 16, 2) := by decide +kernel
theorem dX12_restore_49 : decode cX12_restore 49 = .ok (.iload_n 1, 1) := by decide +kernel
theorem dX12_restore_50 : decode cX12_restore 50 = .ok (.aload_n 0, 1) := by decide +kernel
theorem dX12_restore_51 : decode cX12_restore 51 = .ok (.getfield 37, 3) := by decide +kernel
theorem dX12_restore_54 : decode cX12_restore 54 = .ok (.iload_n 1, 1) := by decide +kernel
theorem dX12_restore_55 : decode cX12_restore 55 = .ok (.iaload, 1) := by decide +kernel
theorem dX12_restore_56 : decode cX12_restore 56 = .ok (.invokestatic 211, 3) := by decide +kernel
theorem dX12_restore_59 : decode cX12_restore 59 = .ok (.imul, 1) := by decide +kernel
theorem dX12_restore_60 : decode cX12_restore 60 = .ok (.iload 4, 2) := by decide +kernel
theorem dX12_restore_62 : decode cX12_restore 62 = .ok (.iadd, 1) := by decide +kernel
theorem dX12_restore_63 : decode cX12_restore 63 = .ok (.aload_n 2, 1) := by decide +kernel
theorem dX12_restore_64 : decode cX12_restore 64 = .ok (.iload_n 3, 1) := by decide +kernel
theorem dX12_restore_65 : decode cX12_restore 65 = .ok (.iconst 1, 1) := by decide +kernel
theorem dX12_restore_66 : decode cX12_restore 66 = .ok (.iadd, 1) := by decide +kernel
theorem dX12_restore_67 : decode cX12_restore 67 = .ok (.iload 4, 2) := by decide +kernel
theorem dX12_restore_69 : decode cX12_restore 69 = .ok (.iadd, 1) := by decide +kernel
theorem dX12_restore_70 : decode cX12_restore 70 = .ok (.iaload, 1) := by decide +kernel
theorem dX12_restore_71 : decode cX12_restore 71 = .ok (.iastore, 1) := by decide +kernel
theorem dX12_restore_72 : decode cX12_restore 72 = .ok (.aload_n 0, 1) := by decide +kernel
theorem dX12_restore_73 : decode cX12_restore 73 = .ok (.getfield 67, 3) := by decide +kernel
theorem dX12_restore_76 : decode cX12_restore 76 = .ok (.bipush 16, 2) := by decide +kernel
theorem dX12_restore_78 : decode cX12_restore 78 = .ok (.iload_n 1, 1) := by decide +kernel
theorem dX12_restore_79 : decode cX12_restore 79 = .ok (.imul, 1) := by decide +kernel
theorem dX12_restore_80 : decode cX12_restore 80 = .ok (.iload 4, 2) := by decide +kernel
theorem dX12_restore_82 : decode cX12_restore 82 = .ok (.iadd, 1) := by decide +kernel
theorem dX12_restore_83 : decode cX12_restore 83 = .ok (.aload_n 2, 1) := by decide +kernel
theorem dX12_restore_84 : decode cX12_restore 84 = .ok (.iload_n 3, 1) := by decide +kernel
theorem dX12_restore_85 : decode cX12_restore 85 = .ok (.bipush 17, 2) := by decide +kernel
theorem dX12_restore_87 : decode cX12_restore 87 = .ok (.iadd, 1) := by decide +kernel
theorem dX12_restore_88 : decode cX12_restore 88 = .ok (.iload 4, 2) := by decide +kernel
theorem dX12_restore_90 : decode cX12_restore 90 = .ok (.iadd, 1) := by decide +kernel
theorem dX12_restore_91 : decode cX12_restore 91 = .ok (.iaload, 1) := by decide +kernel
theorem dX12_restore_92 : decode cX12_restore 92 = .ok (.iastore, 1) := by decide +kernel
theorem dX12_restore_93 : decode cX12_restore 93 = .ok (.aload_n 0, 1) := by decide +kernel
theorem dX12_restore_94 : decode cX12_restore 94 = .ok (.getfield 70, 3) := by decide +kernel
theorem dX12_restore_97 : decode cX12_restore 97 = .ok (.bipush 16, 2) := by decide +kernel
theorem dX12_restore_99 : decode cX12_restore 99 = .ok (.iload_n 1, 1) := by decide +kernel
theorem dX12_restore_100 : decode cX12_restore 100 = .ok (.imul, 1) := by decide +kernel
theorem dX12_restore_101 : decode cX12_restore 101 = .ok (.iload 4, 2) := by decide +kernel
theorem dX12_restore_103 : decode cX12_restore 103 = .ok (.iadd, 1) := by decide +kernel
theorem dX12_restore_104 : decode cX12_restore 104 = .ok (.aload_n 2, 1) := by decide +kernel
theorem dX12_restore_105 : decode cX12_restore 105 = .ok (.iload_n 3, 1) := by decide +kernel
theorem dX12_restore_106 : decode cX12_restore 106 = .ok (.bipush 33, 2) := by decide +kernel
theorem dX12_restore_108 : decode cX12_restore 108 = .ok (.iadd, 1) := by decide +kernel
theorem dX12_restore_109 : decode cX12_restore 109 = .ok (.iload 4, 2) := by decide +kernel
theorem dX12_restore_111 : decode cX12_restore 111 = .ok (.iadd, 1) := by decide +kernel
theorem dX12_restore_112 : decode cX12_restore 112 = .ok (.iaload, 1) := by decide +kernel
theorem dX12_restore_113 : decode cX12_restore 113 = .ok (.iastore, 1) := by decide +kernel
theorem dX12_restore_114 : decode cX12_restore 114 = .ok (.iinc 4 1, 3) := by decide +kernel
theorem dX12_restore_117 : decode cX12_restore 117 = .ok (.goto (-81), 3) := by decide +kernel
theorem dX12_restore_120 : decode cX12_restore 120 = .ok (.iconst 0, 1) := by decide +kernel
theorem dX12_restore_121 : decode cX12_restore 121 = .ok (.istore 4, 2) := by decide +kernel
theorem dX12_restore_123 : decode cX12_restore 123 = .ok (.iload 4, 2) := by decide +kernel
theorem dX12_restore_125 : decode cX12_restore 125 = .ok (.aload_n 0, 1) := by decide +kernel
theorem dX12_restore_126 : decode cX12_restore 126 = .ok (.getfield 190, 3) := by decide +kernel
theorem dX12_restore_129 : decode cX12_restore 129 = .ok (.if_icmp .ge 48, 3) := by decide +kernel
theorem dX12_restore_132 : decode cX12_restore 132 = .ok (.aload_n 0, 1) := by decide +kernel
theorem dX12_restore_133 : decode cX12_restore 133 = .ok (.getfield 37, 3) := by decide +kernel
theorem dX12_restore_136 : decode cX12_restore 136 = .ok (.iload_n 1, 1) := by decide +kernel
theorem dX12_restore_137 : decode cX12_restore 137 = .ok (.iaload, 1) := by decide +kernel
theorem dX12_restore_138 : decode cX12_restore 138 = .ok (.iload 4, 2) := by decide +kernel
theorem dX12_restore_140 : decode cX12_restore 140 = .ok (.isub, 1) := by decide +kernel
theorem dX12_restore_141 : decode cX12_restore 141 = .ok (.ifCond .le 30, 3) := by decide +kernel
theorem dX12_restore_144 : decode cX12_restore 144 = .ok (.aload_n 0, 1) := by decide +kernel
theorem dX12_restore_145 : decode cX12_restore 145 = .ok (.getfield 61, 3) := by decide +kernel
theorem dX12_restore_148 : decode cX12_restore 148 = .ok (.iload_n 1, 1) := by decide +kernel
theorem dX12_restore_149 : decode cX12_restore 149 = .ok (.aload_n 0, 1) := by decide +kernel
theorem dX12_restore_150 : decode cX12_restore 150 = .ok (.getfield 37, 3) := by decide +kernel
theorem dX12_restore_153 : decode cX12_restore 153 = .ok (.iload_n 1, 1) := by decide +kernel
theorem dX12_restore_154 : decode cX12_restore 154 = .ok (.iaload, 1) := by decide +kernel
theorem dX12_restore_155 : decode cX12_restore 155 = .ok (.iload 4, 2) := by decide +kernel
theorem dX12_restore_157 : decode cX12_restore 157 = .ok (.isub, 1) := by decide +kernel
theorem dX12_restore_158 : decode cX12_restore 158 = .ok (.invokestatic 211, 3) := by decide +kernel
theorem dX12_restore_161 : decode cX12_restore 161 = .ok (.aload_n 2, 1) := by decide +kernel
theorem dX12_restore_162 : decode cX12_restore 162 = .ok (.iload_n 3, 1) := by decide +kernel
theorem dX12_restore_163 : decode cX12_restore 163 = .ok (.bipush 49, 2) := by decide +kernel
theorem dX12_restore_165 : decode cX12_restore 165 = .ok (.iadd, 1) := by decide +kernel
theorem dX12_restore_166 : decode cX12_restore 166 = .ok (.iload 4, 2) := by decide +kernel
theorem dX12_restore_168 : decode cX12_restore 168 = .ok (.iadd, 1) := by decide +kernel
theorem dX12_restore_169 : decode cX12_restore 169 = .ok (.iaload, 1) := by decide +kernel
theorem dX12_restore_170 : decode cX12_restore 170 = .ok (.iastore, 1) := by decide +kernel
theorem dX12_restore_171 : decode cX12_restore 171 = .ok (.iinc 4 1, 3) := by decide +kernel
theorem dX12_restore_174 : decode cX12_restore 174 = .ok (.goto (-51), 3) := by decide +kernel
theorem dX12_restore_177 : decode cX12_restore 177 = .ok (.return_, 1) := by decide +kernel
theorem dX12_remove_0 : decode cX12_remove 0 = .ok (.aload_n 0, 1) := by decide +kernel
theorem dX12_remove_1 : decode cX12_remove 1 = .ok (.dup, 1) := by decide +kernel
theorem dX12_remove_2 : decode cX12_remove 2 = .ok (.getfield 290, 3) := by decide +kernel
theorem dX12_remove_5 : decode cX12_remove 5 = .ok (.iconst 1, 1) := by decide +kernel
theorem dX12_remove_6 : decode cX12_remove 6 = .ok (.isub, 1) := by decide +kernel
theorem dX12_remove_7 : decode cX12_remove 7 = .ok (.putfield 290, 3) := by decide +kernel
theorem dX12_remove_10 : decode cX12_remove 10 = .ok (.bipush 8, 2) := by decide +kernel
theorem dX12_remove_12 : decode cX12_remove 12 = .ok (.iload_n 1, 1) := by decide +kernel
theorem dX12_remove_13 : decode cX12_remove 13 = .ok (.imul, 1) := by decide +kernel
theorem dX12_remove_14 : decode cX12_remove 14 = .ok (.istore_n 2, 1) := by decide +kernel
theorem dX12_remove_15 : decode cX12_remove 15 = .ok (.iload_n 2, 1) := by decide +kernel
theorem dX12_remove_16 : decode cX12_remove 16 = .ok (.bipush 8, 2) := by decide +kernel
theorem dX12_remove_18 : decode cX12_remove 18 = .ok (.aload_n 0, 1) := by decide +kernel
theorem dX12_remove_19 : decode cX12_remove 19 = .ok (.getfield 290, 3) := by decide +kernel
theorem dX12_remove_22 : decode cX12_remove 22 = .ok (.imul, 1) := by decide +kernel
theorem dX12_remove_23 : decode cX12_remove 23 = .ok (.if_icmp .ge 24, 3) := by decide +kernel
theorem dX12_remove_26 : decode cX12_remove 26 = .ok (.aload_n 0, 1) := by decide +kernel
theorem dX12_remove_27 : decode cX12_remove 27 = .ok (.getfield 136, 3) := by decide +kernel
theorem dX12_remove_30 : decode cX12_remove 30 = .ok (.iload_n 2, 1) := by decide +kernel
theorem dX12_remove_31 : decode cX12_remove 31 = .ok (.aload_n 0, 1) := by decide +kernel
theorem dX12_remove_32 : decode cX12_remove 32 = .ok (.getfield 136, 3) := by decide +kernel
theorem dX12_remove_35 : decode cX12_remove 35 = .ok (.iload_n 2, 1) := by decide +kernel
theorem dX12_remove_36 : decode cX12_remove 36 = .ok (.bipush 8, 2) := by decide +kernel
theorem dX12_remove_38 : decode cX12_remove 38 = .ok (.iadd, 1) := by decide +kernel
theorem dX12_remove_39 : decode cX12_remove 39 = .ok (.iaload, 1) := by decide +kernel
theorem dX12_remove_40 : decode cX12_remove 40 = .ok (.iastore, 1) := by decide +kernel
theorem dX12_remove_41 : decode cX12_remove 41 = .ok (.iinc 2 1, 3) := by decide +kernel
theorem dX12_remove_44 : decode cX12_remove 44 = .ok (.goto (-29), 3) := by decide +kernel
theorem dX12_remove_47 : decode cX12_remove 47 = .ok (.bipush 100, 2) := by decide +kernel
theorem dX12_remove_49 : decode cX12_remove 49 = .ok (.iload_n 1, 1) := by decide +kernel
theorem dX12_remove_50 : decode cX12_remove 50 = .ok (.imul, 1) := by decide +kernel
theorem dX12_remove_51 : decode cX12_remove 51 = .ok (.istore_n 2, 1) := by decide +kernel
theorem dX12_remove_52 : decode cX12_remove 52 = .ok (.iload_n 2, 1) := by decide +kernel
theorem dX12_remove_53 : decode cX12_remove 53 = .ok (.bipush 100, 2) := by decide +kernel
theorem dX12_remove_55 : decode cX12_remove 55 = .ok (.aload_n 0, 1) := by decide +kernel
theorem dX12_remove_56 : decode cX12_remove 56 = .ok (.getfield 290, 3) := by decide +kernel
theorem dX12_remove_59 : decode cX12_remove 59 = .ok (.imul, 1) := by decide +kernel
theorem dX12_remove_60 : decode cX12_remove 60 = .ok (.if_icmp .ge 24, 3) := by decide +kernel
theorem dX12_remove_63 : decode cX12_remove 63 = .ok (.aload_n 0, 1) := by decide +kernel
theorem dX12_remove_64 : decode cX12_remove 64 = .ok (.getfield 139, 3) := by decide +kernel
theorem dX12_remove_67 : decode cX12_remove 67 = .ok (.iload_n 2, 1) := by decide +kernel
theorem dX12_remove_68 : decode cX12_remove 68 = .ok (.aload_n 0, 1) := by decide +kernel
theorem dX12_remove_69 : decode cX12_remove 69 = .ok (.getfield 139, 3) := by decide +kernel
theorem dX12_remove_72 : decode cX12_remove 72 = .ok (.iload_n 2, 1) := by decide +kernel
theorem dX12_remove_73 : decode cX12_remove 73 = .ok (.bipush 100, 2) := by decide +kernel
theorem dX12_remove_75 : decode cX12_remove 75 = .ok (.iadd, 1) := by decide +kernel
theorem dX12_remove_76 : decode cX12_remove 76 = .ok (.iaload, 1) := by decide +kernel
theorem dX12_remove_77 : decode cX12_remove 77 = .ok (.iastore, 1) := by decide +kernel
theorem dX12_remove_78 : decode cX12_remove 78 = .ok (.iinc 2 1, 3) := by decide +kernel
theorem dX12_remove_81 : decode cX12_remove 81 = .ok (.goto (-29), 3) := by decide +kernel
theorem dX12_remove_84 : decode cX12_remove 84 = .ok (.iload_n 1, 1) := by decide +kernel
theorem dX12_remove_85 : decode cX12_remove 85 = .ok (.istore_n 2, 1) := by decide +kernel
theorem dX12_remove_86 : decode cX12_remove 86 = .ok (.iload_n 2, 1) := by decide +kernel
theorem dX12_remove_87 : decode cX12_remove 87 = .ok (.aload_n 0, 1) := by decide +kernel
theorem dX12_remove_88 : decode cX12_remove 88 = .ok (.getfield 290, 3) := by decide +kernel
theorem dX12_remove_91 : decode cX12_remove 91 = .ok (.if_icmp .ge 23, 3) := by decide +kernel
theorem dX12_remove_94 : decode cX12_remove 94 = .ok (.aload_n 0, 1) := by decide +kernel
theorem dX12_remove_95 : decode cX12_remove 95 = .ok (.getfield 142, 3) := by decide +kernel
theorem dX12_remove_98 : decode cX12_remove 98 = .ok (.iload_n 2, 1) := by decide +kernel
theorem dX12_remove_99 : decode cX12_remove 99 = .ok (.aload_n 0, 1) := by decide +kernel
theorem dX12_remove_100 : decode cX12_remove 100 = .ok (.getfield 142, 3) := by decide +kernel
theorem dX12_remove_103 : decode cX12_remove 103 = .ok (.iload_n 2, 1) := by decide +kernel
theorem dX12_remove_104 : decode cX12_remove 104 = .ok (.iconst 1, 1) := by decide +kernel
theorem dX12_remove_105 : decode cX12_remove 105 = .ok (.iadd, 1) := by decide +kernel
theorem dX12_remove_106 : decode cX12_remove 106 = .ok (.iaload, 1) := by decide +kernel
theorem dX12_remove_107 : decode cX12_remove 107 = .ok (.iastore, 1) := by decide +kernel
theorem dX12_remove_108 : decode cX12_remove 108 = .ok (.iinc 2 1, 3) := by decide +kernel
theorem dX12_remove_111 : decode cX12_remove 111 = .ok (.goto (-25), 3) := by decide +kernel
theorem dX12_remove_114 : decode cX12_remove 114 = .ok (.return_, 1) := by decide +kernel
theorem dX12_follow_0 : decode cX12_follow 0 = .ok (.aload_n 0, 1) := by decide +kernel
theorem dX12_follow_1 : decode cX12_follow 1 = .ok (.getfield 73, 3) := by decide +kernel
theorem dX12_follow_4 : decode cX12_follow 4 = .ok (.iload_n 1, 1) := by decide +kernel
theorem dX12_follow_5 : decode cX12_follow 5 = .ok (.iconst 0, 1) := by decide +kernel
theorem dX12_follow_6 : decode cX12_follow 6 = .ok (.iastore, 1) := by decide +kernel
theorem dX12_follow_7 : decode cX12_follow 7 = .ok (.aload_n 0, 1) := by decide +kernel
theorem dX12_follow_8 : decode cX12_follow 8 = .ok (.getfield 76, 3) := by decide +kernel
theorem dX12_follow_11 : decode cX12_follow 11 = .ok (.iload_n 1, 1) := by decide +kernel
theorem dX12_follow_12 : decode cX12_follow 12 = .ok (.iconst 0, 1) := by decide +kernel
theorem dX12_follow_13 : decode cX12_follow 13 = .ok (.iastore, 1) := by decide +kernel
theorem dX12_follow_14 : decode cX12_follow 14 = .ok (.aload_n 0, 1) := by decide +kernel
theorem dX12_follow_15 : decode cX12_follow 15 = .ok (.getfield 79, 3) := by decide +kernel
theorem dX12_follow_18 : decode cX12_follow 18 = .ok (.iload_n 1, 1) := by decide +kernel
theorem dX12_follow_19 : decode cX12_follow 19 = .ok (.iconst 0, 1) := by decide +kernel
theorem dX12_follow_20 : decode cX12_follow 20 = .ok (.iastore, 1) := by decide +kernel
theorem dX12_follow_21 : decode cX12_follow 21 = .ok (.aload_n 0, 1) := by decide +kernel
theorem dX12_follow_22 : decode cX12_follow 22 = .ok (.getfield 82, 3) := by decide +kernel
theorem dX12_follow_25 : decode cX12_follow 25 = .ok (.iload_n 1, 1) := by decide +kernel
theorem dX12_follow_26 : decode cX12_follow 26 = .ok (.iconst 0, 1) := by decide +kernel
theorem dX12_follow_27 : decode cX12_follow 27 = .ok (.iastore, 1) := by decide +kernel
theorem dX12_follow_28 : decode cX12_follow 28 = .ok (.aload_n 0, 1) := by decide +kernel
theorem dX12_follow_29 : decode cX12_follow 29 = .ok (.getfield 85, 3) := by decide +kernel
theorem dX12_follow_32 : decode cX12_follow 32 = .ok (.iload_n 1, 1) := by decide +kernel
theorem dX12_follow_33 : decode cX12_follow 33 = .ok (.iconst 0, 1) := by decide +kernel
theorem dX12_follow_34 : decode cX12_follow 34 = .ok (.iastore, 1) := by decide +kernel
theorem dX12_follow_35 : decode cX12_follow 35 = .ok (.aload_n 0, 1) := by decide +kernel
theorem dX12_follow_36 : decode cX12_follow 36 = .ok (.getfield 88, 3) := by decide +kernel
theorem dX12_follow_39 : decode cX12_follow 39 = .ok (.iload_n 1, 1) := by decide +kernel
theorem dX12_follow_40 : decode cX12_follow 40 = .ok (.iconst 0, 1) := by decide +kernel
theorem dX12_follow_41 : decode cX12_follow 41 = .ok (.iastore, 1) := by decide +kernel
theorem dX12_follow_42 : decode cX12_follow 42 = .ok (.return_, 1) := by decide +kernel
theorem dX12_campaign_0 : decode cX12_campaign 0 = .ok (.aload_n 0, 1) := by decide +kernel
theorem dX12_campaign_1 : decode cX12_campaign 1 = .ok (.getfield 46, 3) := by decide +kernel
theorem dX12_campaign_4 : decode cX12_campaign 4 = .ok (.iload_n 1, 1) := by decide +kernel
theorem dX12_campaign_5 : decode cX12_campaign 5 = .ok (.iaload, 1) := by decide +kernel
theorem dX12_campaign_6 : decode cX12_campaign 6 = .ok (.aload_n 0, 1) := by decide +kernel
theorem dX12_campaign_7 : decode cX12_campaign 7 = .ok (.getfield 91, 3) := by decide +kernel
theorem dX12_campaign_10 : decode cX12_campaign 10 = .ok (.iload_n 1, 1) := by decide +kernel
theorem dX12_campaign_11 : decode cX12_campaign 11 = .ok (.iaload, 1) := by decide +kernel
theorem dX12_campaign_12 : decode cX12_campaign 12 = .ok (.if_icmp .le 12, 3) := by decide +kernel
theorem dX12_campaign_15 : decode cX12_campaign 15 = .ok (.aload_n 0, 1) := by decide +kernel
theorem dX12_campaign_16 : decode cX12_campaign 16 = .ok (.getfield 46, 3) := by decide +kernel
theorem dX12_campaign_19 : decode cX12_campaign 19 = .ok (.iload_n 1, 1) := by decide +kernel
theorem dX12_campaign_20 : decode cX12_campaign 20 = .ok (.iaload, 1) := by decide +kernel
theorem dX12_campaign_21 : decode cX12_campaign 21 = .ok (.goto 9, 3) := by decide +kernel
theorem dX12_campaign_24 : decode cX12_campaign 24 = .ok (.aload_n 0, 1) := by decide +kernel
theorem dX12_campaign_25 : decode cX12_campaign 25 = .ok (.getfield 91, 3) := by decide +kernel
theorem dX12_campaign_28 : decode cX12_campaign 28 = .ok (.iload_n 1, 1) := by decide +kernel
theorem dX12_campaign_29 : decode cX12_campaign 29 = .ok (.iaload, 1) := by decide +kernel
theorem dX12_campaign_30 : decode cX12_campaign 30 = .ok (.istore_n 2, 1) := by decide +kernel
theorem dX12_campaign_31 : decode cX12_campaign 31 = .ok (.iload_n 1, 1) := by decide +kernel
theorem dX12_campaign_32 : decode cX12_campaign 32 = .ok (.ifCond .ne 10, 3) := by decide +kernel
theorem dX12_campaign_35 : decode cX12_campaign 35 = .ok (.aload_n 0, 1) := by decide +kernel
theorem dX12_campaign_36 : decode cX12_campaign 36 = .ok (.getfield 184, 3) := by decide +kernel
theorem dX12_campaign_39 : decode cX12_campaign 39 = .ok (.goto 4, 3) := by decide +kernel
theorem dX12_campaign_42 : decode cX12_campaign 42 = .ok (.iload_n 1, 1) := by decide +kernel
theorem dX12_campaign_43 : decode cX12_campaign 43 = .ok (.istore_n 3, 1) := by decide +kernel
theorem dX12_campaign_44 : decode cX12_campaign 44 = .ok (.iload_n 3, 1) := by decide +kernel
theorem dX12_campaign_45 : decode cX12_campaign 45 = .ok (.iload_n 2, 1) := by decide +kernel
theorem dX12_campaign_46 : decode cX12_campaign 46 = .ok (.if_icmp .gt 13, 3) := by decide +kernel
theorem dX12_campaign_49 : decode cX12_campaign 49 = .ok (.iload_n 3, 1) := by decide +kernel
