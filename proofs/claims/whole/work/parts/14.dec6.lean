theorem dX6_init_0 : decode cX6_init 0 = .ok (.aload_n 0, 1) := by decide +kernel
theorem dX6_init_1 : decode cX6_init 1 = .ok (.invokespecial 3, 3) := by decide +kernel
theorem dX6_init_4 : decode cX6_init 4 = .ok (.aload_n 0, 1) := by decide +kernel
theorem dX6_init_5 : decode cX6_init 5 = .ok (.iconst 2, 1) := by decide +kernel
theorem dX6_init_6 : decode cX6_init 6 = .ok (.anewarray 9, 3) := by decide +kernel
theorem dX6_init_9 : decode cX6_init 9 = .ok (.dup, 1) := by decide +kernel
theorem dX6_init_10 : decode cX6_init 10 = .ok (.iconst 0, 1) := by decide +kernel
theorem dX6_init_11 : decode cX6_init 11 = .ok (.ldc 11, 2) := by decide +kernel
theorem dX6_init_13 : decode cX6_init 13 = .ok (.aastore, 1) := by decide +kernel
theorem dX6_init_14 : decode cX6_init 14 = .ok (.dup, 1) := by decide +kernel
theorem dX6_init_15 : decode cX6_init 15 = .ok (.iconst 1, 1) := by decide +kernel
theorem dX6_init_16 : decode cX6_init 16 = .ok (.ldc 13, 2) := by decide +kernel
theorem dX6_init_18 : decode cX6_init 18 = .ok (.aastore, 1) := by decide +kernel
theorem dX6_init_19 : decode cX6_init 19 = .ok (.putfield 15, 3) := by decide +kernel
theorem dX6_init_22 : decode cX6_init 22 = .ok (.aload_n 0, 1) := by decide +kernel
theorem dX6_init_23 : decode cX6_init 23 = .ok (.bipush 7, 2) := by decide +kernel
theorem dX6_init_25 : decode cX6_init 25 = .ok (.anewarray 9, 3) := by decide +kernel
theorem dX6_init_28 : decode cX6_init 28 = .ok (.dup, 1) := by decide +kernel
theorem dX6_init_29 : decode cX6_init 29 = .ok (.iconst 0, 1) := by decide +kernel
theorem dX6_init_30 : decode cX6_init 30 = .ok (.ldc 19, 2) := by decide +kernel
theorem dX6_init_32 : decode cX6_init 32 = .ok (.aastore, 1) := by decide +kernel
theorem dX6_init_33 : decode cX6_init 33 = .ok (.dup, 1) := by decide +kernel
theorem dX6_init_34 : decode cX6_init 34 = .ok (.iconst 1, 1) := by decide +kernel
theorem dX6_init_35 : decode cX6_init 35 = .ok (.ldc 21, 2) := by decide +kernel
theorem dX6_init_37 : decode cX6_init 37 = .ok (.aastore, 1) := by decide +kernel
theorem dX6_init_38 : decode cX6_init 38 = .ok (.dup, 1) := by decide +kernel
theorem dX6_init_39 : decode cX6_init 39 = .ok (.iconst 2, 1) := by decide +kernel
theorem dX6_init_40 : decode cX6_init 40 = .ok (.ldc 23, 2) := by decide +kernel
theorem dX6_init_42 : decode cX6_init 42 = .ok (.aastore, 1) := by decide +kernel
theorem dX6_init_43 : decode cX6_init 43 = .ok (.dup, 1) := by decide +kernel
theorem dX6_init_44 : decode cX6_init 44 = .ok (.iconst 3, 1) := by decide +kernel
theorem dX6_init_45 : decode cX6_init 45 = .ok (.ldc 25, 2) := by decide +kernel
theorem dX6_init_47 : decode cX6_init 47 = .ok (.aastore, 1) := by decide +kernel
theorem dX6_init_48 : decode cX6_init 48 = .ok (.dup, 1) := by decide +kernel
theorem dX6_init_49 : decode cX6_init 49 = .ok (.iconst 4, 1) := by decide +kernel
theorem dX6_init_50 : decode cX6_init 50 = .ok (.ldc 27, 2) := by decide +kernel
theorem dX6_init_52 : decode cX6_init 52 = .ok (.aastore, 1) := by decide +kernel
theorem dX6_init_53 : decode cX6_init 53 = .ok (.dup, 1) := by decide +kernel
theorem dX6_init_54 : decode cX6_init 54 = .ok (.iconst 5, 1) := by decide +kernel
theorem dX6_init_55 : decode cX6_init 55 = .ok (.ldc 29, 2) := by decide +kernel
theorem dX6_init_57 : decode cX6_init 57 = .ok (.aastore, 1) := by decide +kernel
theorem dX6_init_58 : decode cX6_init 58 = .ok (.dup, 1) := by decide +kernel
theorem dX6_init_59 : decode cX6_init 59 = .ok (.bipush 6, 2) := by decide +kernel
theorem dX6_init_61 : decode cX6_init 61 = .ok (.ldc 31, 2) := by decide +kernel
theorem dX6_init_63 : decode cX6_init 63 = .ok (.aastore, 1) := by decide +kernel
theorem dX6_init_64 : decode cX6_init 64 = .ok (.putfield 33, 3) := by decide +kernel
theorem dX6_init_67 : decode cX6_init 67 = .ok (.aload_n 0, 1) := by decide +kernel
theorem dX6_init_68 : decode cX6_init 68 = .ok (.iconst 5, 1) := by decide +kernel
theorem dX6_init_69 : decode cX6_init 69 = .ok (.anewarray 9, 3) := by decide +kernel
theorem dX6_init_72 : decode cX6_init 72 = .ok (.dup, 1) := by decide +kernel
theorem dX6_init_73 : decode cX6_init 73 = .ok (.iconst 0, 1) := by decide +kernel
theorem dX6_init_74 : decode cX6_init 74 = .ok (.ldc 19, 2) := by decide +kernel
theorem dX6_init_76 : decode cX6_init 76 = .ok (.aastore, 1) := by decide +kernel
theorem dX6_init_77 : decode cX6_init 77 = .ok (.dup, 1) := by decide +kernel
theorem dX6_init_78 : decode cX6_init 78 = .ok (.iconst 1, 1) := by decide +kernel
theorem dX6_init_79 : decode cX6_init 79 = .ok (.ldc 21, 2) := by decide +kernel
theorem dX6_init_81 : decode cX6_init 81 = .ok (.aastore, 1) := by decide +kernel
theorem dX6_init_82 : decode cX6_init 82 = .ok (.dup, 1) := by decide +kernel
theorem dX6_init_83 : decode cX6_init 83 = .ok (.iconst 2, 1) := by decide +kernel
theorem dX6_init_84 : decode cX6_init 84 = .ok (.ldc 23, 2) := by decide +kernel
theorem dX6_init_86 : decode cX6_init 86 = .ok (.aastore, 1) := by decide +kernel
theorem dX6_init_87 : decode cX6_init 87 = .ok (.dup, 1) := by decide +kernel
theorem dX6_init_88 : decode cX6_init 88 = .ok (.iconst 3, 1) := by decide +kernel
theorem dX6_init_89 : decode cX6_init 89 = .ok (.ldc 25, 2) := by decide +kernel
theorem dX6_init_91 : decode cX6_init 91 = .ok (.aastore, 1) := by decide +kernel
theorem dX6_init_92 : decode cX6_init 92 = .ok (.dup, 1) := by decide +kernel
theorem dX6_init_93 : decode cX6_init 93 = .ok (.iconst 4, 1) := by decide +kernel
theorem dX6_init_94 : decode cX6_init 94 = .ok (.ldc 27, 2) := by decide +kernel
theorem dX6_init_96 : decode cX6_init 96 = .ok (.aastore, 1) := by decide +kernel
theorem dX6_init_97 : decode cX6_init 97 = .ok (.putfield 36, 3) := by decide +kernel
theorem dX6_init_100 : decode cX6_init 100 = .ok (.aload_n 0, 1) := by decide +kernel
theorem dX6_init_101 : decode cX6_init 101 = .ok (.aload_n 0, 1) := by decide +kernel
theorem dX6_init_102 : decode cX6_init 102 = .ok (.getfield 33, 3) := by decide +kernel
theorem dX6_init_105 : decode cX6_init 105 = .ok (.putfield 39, 3) := by decide +kernel
theorem dX6_init_108 : decode cX6_init 108 = .ok (.aload_n 0, 1) := by decide +kernel
theorem dX6_init_109 : decode cX6_init 109 = .ok (.bipush 10, 2) := by decide +kernel
theorem dX6_init_111 : decode cX6_init 111 = .ok (.newarray .int, 2) := by decide +kernel
theorem dX6_init_113 : decode cX6_init 113 = .ok (.putfield 42, 3) := by decide +kernel
theorem dX6_init_116 : decode cX6_init 116 = .ok (.aload_n 0, 1) := by decide +kernel
theorem dX6_init_117 : decode cX6_init 117 = .ok (.bipush 16, 2) := by decide +kernel
theorem dX6_init_119 : decode cX6_init 119 = .ok (.newarray .int, 2) := by decide +kernel
theorem dX6_init_121 : decode cX6_init 121 = .ok (.putfield 46, 3) := by decide +kernel
theorem dX6_init_124 : decode cX6_init 124 = .ok (.aload_n 0, 1) := by decide +kernel
theorem dX6_init_125 : decode cX6_init 125 = .ok (.bipush 16, 2) := by decide +kernel
theorem dX6_init_127 : decode cX6_init 127 = .ok (.newarray .int, 2) := by decide +kernel
theorem dX6_init_129 : decode cX6_init 129 = .ok (.putfield 49, 3) := by decide +kernel
theorem dX6_init_132 : decode cX6_init 132 = .ok (.aload_n 0, 1) := by decide +kernel
theorem dX6_init_133 : decode cX6_init 133 = .ok (.bipush 16, 2) := by decide +kernel
theorem dX6_init_135 : decode cX6_init 135 = .ok (.newarray .int, 2) := by decide +kernel
theorem dX6_init_137 : decode cX6_init 137 = .ok (.putfield 52, 3) := by decide +kernel
theorem dX6_init_140 : decode cX6_init 140 = .ok (.aload_n 0, 1) := by decide +kernel
theorem dX6_init_141 : decode cX6_init 141 = .ok (.bipush 16, 2) := by decide +kernel
theorem dX6_init_143 : decode cX6_init 143 = .ok (.newarray .int, 2) := by decide +kernel
theorem dX6_init_145 : decode cX6_init 145 = .ok (.putfield 55, 3) := by decide +kernel
theorem dX6_init_148 : decode cX6_init 148 = .ok (.aload_n 0, 1) := by decide +kernel
theorem dX6_init_149 : decode cX6_init 149 = .ok (.bipush 16, 2) := by decide +kernel
theorem dX6_init_151 : decode cX6_init 151 = .ok (.newarray .int, 2) := by decide +kernel
theorem dX6_init_153 : decode cX6_init 153 = .ok (.putfield 58, 3) := by decide +kernel
theorem dX6_init_156 : decode cX6_init 156 = .ok (.aload_n 0, 1) := by decide +kernel
theorem dX6_init_157 : decode cX6_init 157 = .ok (.bipush 16, 2) := by decide +kernel
theorem dX6_init_159 : decode cX6_init 159 = .ok (.newarray .int, 2) := by decide +kernel
theorem dX6_init_161 : decode cX6_init 161 = .ok (.putfield 61, 3) := by decide +kernel
theorem dX6_init_164 : decode cX6_init 164 = .ok (.aload_n 0, 1) := by decide +kernel
theorem dX6_init_165 : decode cX6_init 165 = .ok (.sipush 1400, 3) := by decide +kernel
theorem dX6_init_168 : decode cX6_init 168 = .ok (.newarray .int, 2) := by decide +kernel
theorem dX6_init_170 : decode cX6_init 170 = .ok (.putfield 64, 3) := by decide +kernel
theorem dX6_init_173 : decode cX6_init 173 = .ok (.aload_n 0, 1) := by decide +kernel
theorem dX6_init_174 : decode cX6_init 174 = .ok (.sipush 1400, 3) := by decide +kernel
theorem dX6_init_177 : decode cX6_init 177 = .ok (.newarray .int, 2) := by decide +kernel
theorem dX6_init_179 : decode cX6_init 179 = .ok (.putfield 67, 3) := by decide +kernel
theorem dX6_init_182 : decode cX6_init 182 = .ok (.aload_n 0, 1) := by decide +kernel
theorem dX6_init_183 : decode cX6_init 183 = .ok (.iconst 3, 1) := by decide +kernel
theorem dX6_init_184 : decode cX6_init 184 = .ok (.newarray .int, 2) := by decide +kernel
theorem dX6_init_186 : decode cX6_init 186 = .ok (.putfield 70, 3) := by decide +kernel
theorem dX6_init_189 : decode cX6_init 189 = .ok (.aload_n 0, 1) := by decide +kernel
theorem dX6_init_190 : decode cX6_init 190 = .ok (.bipush 8, 2) := by decide +kernel
theorem dX6_init_192 : decode cX6_init 192 = .ok (.newarray .int, 2) := by decide +kernel
theorem dX6_init_194 : decode cX6_init 194 = .ok (.putfield 73, 3) := by decide +kernel
theorem dX6_init_197 : decode cX6_init 197 = .ok (.aload_n 0, 1) := by decide +kernel
theorem dX6_init_198 : decode cX6_init 198 = .ok (.sipush 700, 3) := by decide +kernel
theorem dX6_init_201 : decode cX6_init 201 = .ok (.newarray .int, 2) := by decide +kernel
theorem dX6_init_203 : decode cX6_init 203 = .ok (.putfield 75, 3) := by decide +kernel
theorem dX6_init_206 : decode cX6_init 206 = .ok (.aload_n 0, 1) := by decide +kernel
theorem dX6_init_207 : decode cX6_init 207 = .ok (.iconst (-1), 1) := by decide +kernel
theorem dX6_init_208 : decode cX6_init 208 = .ok (.putfield 78, 3) := by decide +kernel
theorem dX6_init_211 : decode cX6_init 211 = .ok (.aload_n 0, 1) := by decide +kernel
theorem dX6_init_212 : decode cX6_init 212 = .ok (.bipush 8, 2) := by decide +kernel
theorem dX6_init_214 : decode cX6_init 214 = .ok (.newarray .int, 2) := by decide +kernel
theorem dX6_init_216 : decode cX6_init 216 = .ok (.putfield 82, 3) := by decide +kernel
theorem dX6_init_219 : decode cX6_init 219 = .ok (.aload_n 0, 1) := by decide +kernel
theorem dX6_init_220 : decode cX6_init 220 = .ok (.bipush 8, 2) := by decide +kernel
theorem dX6_init_222 : decode cX6_init 222 = .ok (.newarray .int, 2) := by decide +kernel
theorem dX6_init_224 : decode cX6_init 224 = .ok (.putfield 85, 3) := by decide +kernel
theorem dX6_init_227 : decode cX6_init 227 = .ok (.aload_n 0, 1) := by decide +kernel
theorem dX6_init_228 : decode cX6_init 228 = .ok (.bipush 8, 2) := by decide +kernel
theorem dX6_init_230 : decode cX6_init 230 = .ok (.newarray .int, 2) := by decide +kernel
theorem dX6_init_232 : decode cX6_init 232 = .ok (.putfield 88, 3) := by decide +kernel
theorem dX6_init_235 : decode cX6_init 235 = .ok (.aload_n 0, 1) := by decide +kernel
theorem dX6_init_236 : decode cX6_init 236 = .ok (.sipush 1080, 3) := by decide +kernel
theorem dX6_init_239 : decode cX6_init 239 = .ok (.newarray .int, 2) := by decide +kernel
theorem dX6_init_241 : decode cX6_init 241 = .ok (.putfield 91, 3) := by decide +kernel
theorem dX6_init_244 : decode cX6_init 244 = .ok (.aload_n 0, 1) := by decide +kernel
theorem dX6_init_245 : decode cX6_init 245 = .ok (.bipush 7, 2) := by decide +kernel
theorem dX6_init_247 : decode cX6_init 247 = .ok (.newarray .int, 2) := by decide +kernel
theorem dX6_init_249 : decode cX6_init 249 = .ok (.putfield 94, 3) := by decide +kernel
theorem dX6_init_252 : decode cX6_init 252 = .ok (.aload_n 0, 1) := by decide +kernel
theorem dX6_init_253 : decode cX6_init 253 = .ok (.bipush 64, 2) := by decide +kernel
theorem dX6_init_255 : decode cX6_init 255 = .ok (.newarray .int, 2) := by decide +kernel
theorem dX6_init_257 : decode cX6_init 257 = .ok (.putfield 97, 3) := by decide +kernel
theorem dX6_init_260 : decode cX6_init 260 = .ok (.aload_n 0, 1) := by decide +kernel
theorem dX6_init_261 : decode cX6_init 261 = .ok (.bipush 8, 2) := by decide +kernel
theorem dX6_init_263 : decode cX6_init 263 = .ok (.newarray .int, 2) := by decide +kernel
theorem dX6_init_265 : decode cX6_init 265 = .ok (.putfield 100, 3) := by decide +kernel
theorem dX6_init_268 : decode cX6_init 268 = .ok (.aload_n 0, 1) := by decide +kernel
theorem dX6_init_269 : decode cX6_init 269 = .ok (.bipush 27, 2) := by decide +kernel
theorem dX6_init_271 : decode cX6_init 271 = .ok (.newarray .int, 2) := by decide +kernel
theorem dX6_init_273 : decode cX6_init 273 = .ok (.putfield 103, 3) := by decide +kernel
theorem dX6_init_276 : decode cX6_init 276 = .ok (.aload_n 0, 1) := by decide +kernel
theorem dX6_init_277 : decode cX6_init 277 = .ok (.iconst 5, 1) := by decide +kernel
theorem dX6_init_278 : decode cX6_init 278 = .ok (.newarray .int, 2) := by decide +kernel
theorem dX6_init_280 : decode cX6_init 280 = .ok (.putfield 106, 3) := by decide +kernel
theorem dX6_init_283 : decode cX6_init 283 = .ok (.aload_n 0, 1) := by decide +kernel
theorem dX6_init_284 : decode cX6_init 284 = .ok (.bipush 8, 2) := by decide +kernel
theorem dX6_init_286 : decode cX6_init 286 = .ok (.newarray .int, 2) := by decide +kernel
theorem dX6_init_288 : decode cX6_init 288 = .ok (.putfield 109, 3) := by decide +kernel
theorem dX6_init_291 : decode cX6_init 291 = .ok (.aload_n 0, 1) := by decide +kernel
theorem dX6_init_292 : decode cX6_init 292 = .ok (.bipush 8, 2) := by decide +kernel
theorem dX6_init_294 : decode cX6_init 294 = .ok (.newarray .int, 2) := by decide +kernel
theorem dX6_init_296 : decode cX6_init 296 = .ok (.putfield 112, 3) := by decide +kernel
theorem dX6_init_299 : decode cX6_init 299 = .ok (.aload_n 0, 1) := by decide +kernel
theorem dX6_init_300 : decode cX6_init 300 = .ok (.bipush 8, 2) := by decide +kernel
theorem dX6_init_302 : decode cX6_init 302 = .ok (.newarray .int, 2) := by decide +kernel
theorem dX6_init_304 : decode cX6_init 304 = .ok (.putfield 115, 3) := by decide +kernel
theorem dX6_init_307 : decode cX6_init 307 = .ok (.aload_n 0, 1) := by decide +kernel
theorem dX6_init_308 : decode cX6_init 308 = .ok (.bipush 8, 2) := by decide +kernel
theorem dX6_init_310 : decode cX6_init 310 = .ok (.newarray .int, 2) := by decide +kernel
theorem dX6_init_312 : decode cX6_init 312 = .ok (.putfield 118, 3) := by decide +kernel
theorem dX6_init_315 : decode cX6_init 315 = .ok (.aload_n 0, 1) := by decide +kernel
theorem dX6_init_316 : decode cX6_init 316 = .ok (.bipush 8, 2) := by decide +kernel
theorem dX6_init_318 : decode cX6_init 318 = .ok (.newarray .int, 2) := by decide +kernel
theorem dX6_init_320 : decode cX6_init 320 = .ok (.putfield 121, 3) := by decide +kernel
theorem dX6_init_323 : decode cX6_init 323 = .ok (.aload_n 0, 1) := by decide +kernel
theorem dX6_init_324 : decode cX6_init 324 = .ok (.bipush 27, 2) := by decide +kernel
theorem dX6_init_326 : decode cX6_init 326 = .ok (.newarray .int, 2) := by decide +kernel
theorem dX6_init_328 : decode cX6_init 328 = .ok (.putfield 124, 3) := by decide +kernel
theorem dX6_init_331 : decode cX6_init 331 = .ok (.aload_n 0, 1) := by decide +kernel
theorem dX6_init_332 : decode cX6_init 332 = .ok (.bipush 104, 2) := by decide +kernel
theorem dX6_init_334 : decode cX6_init 334 = .ok (.newarray .int, 2) := by decide +kernel
theorem dX6_init_336 : decode cX6_init 336 = .ok (.putfield 127, 3) := by decide +kernel
theorem dX6_init_339 : decode cX6_init 339 = .ok (.aload_n 0, 1) := by decide +kernel
theorem dX6_init_340 : decode cX6_init 340 = .ok (.sipush 2080, 3) := by decide +kernel
theorem dX6_init_343 : decode cX6_init 343 = .ok (.newarray .int, 2) := by decide +kernel
theorem dX6_init_345 : decode cX6_init 345 = .ok (.putfield 130, 3) := by decide +kernel
theorem dX6_init_348 : decode cX6_init 348 = .ok (.aload_n 0, 1) := by decide +kernel
theorem dX6_init_349 : decode cX6_init 349 = .ok (.iconst 4, 1) := by decide +kernel
theorem dX6_init_350 : decode cX6_init 350 = .ok (.newarray .int, 2) := by decide +kernel
theorem dX6_init_352 : decode cX6_init 352 = .ok (.putfield 133, 3) := by decide +kernel
theorem dX6_init_355 : decode cX6_init 355 = .ok (.aload_n 0, 1) := by decide +kernel
theorem dX6_init_356 : decode cX6_init 356 = .ok (.bipush 27, 2) := by decide +kernel
theorem dX6_init_358 : decode cX6_init 358 = .ok (.newarray .int, 2) := by decide +kernel
theorem dX6_init_360 : decode cX6_init 360 = .ok (.putfield 136, 3) := by decide +kernel
theorem dX6_init_363 : decode cX6_init 363 = .ok (.aload_n 0, 1) := by decide +kernel
theorem dX6_init_364 : decode cX6_init 364 = .ok (.sipush 1080, 3) := by decide +kernel
theorem dX6_init_367 : decode cX6_init 367 = .ok (.newarray .int, 2) := by decide +kernel
theorem dX6_init_369 : decode cX6_init 369 = .ok (.putfield 139, 3) := by decide +kernel
theorem dX6_init_372 : decode cX6_init 372 = .ok (.aload_n 0, 1) := by decide +kernel
theorem dX6_init_373 : decode cX6_init 373 = .ok (.bipush 8, 2) := by decide +kernel
theorem dX6_init_375 : decode cX6_init 375 = .ok (.newarray .int, 2) := by decide +kernel
theorem dX6_init_377 : decode cX6_init 377 = .ok (.putfield 142, 3) := by decide +kernel
theorem dX6_init_380 : decode cX6_init 380 = .ok (.aload_n 0, 1) := by decide +kernel
theorem dX6_init_381 : decode cX6_init 381 = .ok (.bipush 8, 2) := by decide +kernel
theorem dX6_init_383 : decode cX6_init 383 = .ok (.newarray .int, 2) := by decide +kernel
theorem dX6_init_385 : decode cX6_init 385 = .ok (.putfield 145, 3) := by decide +kernel
theorem dX6_init_388 : decode cX6_init 388 = .ok (.aload_n 0, 1) := by decide +kernel
theorem dX6_init_389 : decode cX6_init 389 = .ok (.iconst 3, 1) := by decide +kernel
theorem dX6_init_390 : decode cX6_init 390 = .ok (.newarray .int, 2) := by decide +kernel
theorem dX6_init_392 : decode cX6_init 392 = .ok (.putfield 148, 3) := by decide +kernel
theorem dX6_init_395 : decode cX6_init 395 = .ok (.aload_n 0, 1) := by decide +kernel
theorem dX6_init_396 : decode cX6_init 396 = .ok (.getfield 42, 3) := by decide +kernel
theorem dX6_init_399 : decode cX6_init 399 = .ok (.iconst 2, 1) := by decide +kernel
theorem dX6_init_400 : decode cX6_init 400 = .ok (.bipush 60, 2) := by decide +kernel
theorem dX6_init_402 : decode cX6_init 402 = .ok (.iastore, 1) := by decide +kernel
theorem dX6_init_403 : decode cX6_init 403 = .ok (.aload_n 0, 1) := by decide +kernel
theorem dX6_init_404 : decode cX6_init 404 = .ok (.bipush 60, 2) := by decide +kernel
theorem dX6_init_406 : decode cX6_init 406 = .ok (.putfield 151, 3) := by decide +kernel
theorem dX6_init_409 : decode cX6_init 409 = .ok (.aload_n 0, 1) := by decide +kernel
theorem dX6_init_410 : decode cX6_init 410 = .ok (.iconst (-1), 1) := by decide +kernel
theorem dX6_init_411 : decode cX6_init 411 = .ok (.putfield 154, 3) := by decide +kernel
theorem dX6_init_414 : decode cX6_init 414 = .ok (.return_, 1) := by decide +kernel
theorem dX6_thrown_0 : decode cX6_thrown 0 = .ok (.aload_n 0, 1) := by decide +kernel
theorem dX6_thrown_1 : decode cX6_thrown 1 = .ok (.getfield 157, 3) := by decide +kernel
theorem dX6_thrown_4 : decode cX6_thrown 4 = .ok (.ireturn, 1) := by decide +kernel
theorem dX6_fail_0 : decode cX6_fail 0 = .ok (.aload_n 0, 1) := by decide +kernel
theorem dX6_fail_1 : decode cX6_fail 1 = .ok (.iload_n 1, 1) := by decide +kernel
theorem dX6_fail_2 : decode cX6_fail 2 = .ok (.putfield 157, 3) := by decide +kernel
theorem dX6_fail_5 : decode cX6_fail 5 = .ok (.iconst 0, 1) := by decide +kernel
theorem dX6_fail_6 : decode cX6_fail 6 = .ok (.ireturn, 1) := by decide +kernel
theorem dX6_failing_0 : decode cX6_failing 0 = .ok (.aload_n 0, 1) := by decide +kernel
theorem dX6_failing_1 : decode cX6_failing 1 = .ok (.iload_n 1, 1) := by decide +kernel
theorem dX6_failing_2 : decode cX6_failing 2 = .ok (.putfield 157, 3) := by decide +kernel
theorem dX6_failing_5 : decode cX6_failing 5 = .ok (.iconst 0, 1) := by decide +kernel
theorem dX6_failing_6 : decode cX6_failing 6 = .ok (.ireturn, 1) := by decide +kernel
theorem dX6_isIn_0 : decode cX6_isIn 0 = .ok (.lload_n 0, 1) := by decide +kernel
theorem dX6_isIn_1 : decode cX6_isIn 1 = .ok (.lload_n 2, 1) := by decide +kernel
theorem dX6_isIn_2 : decode cX6_isIn 2 = .ok (.lcmp, 1) := by decide +kernel
theorem dX6_isIn_3 : decode cX6_isIn 3 = .ok (.ifCond .lt 14, 3) := by decide +kernel
theorem dX6_isIn_6 : decode cX6_isIn 6 = .ok (.lload_n 0, 1) := by decide +kernel
theorem dX6_isIn_7 : decode cX6_isIn 7 = .ok (.lload 4, 2) := by decide +kernel
theorem dX6_isIn_9 : decode cX6_isIn 9 = .ok (.lcmp, 1) := by decide +kernel
theorem dX6_isIn_10 : decode cX6_isIn 10 = .ok (.ifCond .gt 7, 3) := by decide +kernel
theorem dX6_isIn_13 : decode cX6_isIn 13 = .ok (.iconst 1, 1) := by decide +kernel
theorem dX6_isIn_14 : decode cX6_isIn 14 = .ok (.goto 4, 3) := by decide +kernel
theorem dX6_isIn_17 : decode cX6_isIn 17 = .ok (.iconst 0, 1) := by decide +kernel
theorem dX6_isIn_18 : decode cX6_isIn 18 = .ok (.ireturn, 1) := by decide +kernel
theorem dX6_isOf_0 : decode cX6_isOf 0 = .ok (.iload_n 0, 1) := by decide +kernel
theorem dX6_isOf_1 : decode cX6_isOf 1 = .ok (.iload_n 1, 1) := by decide +kernel
theorem dX6_isOf_2 : decode cX6_isOf 2 = .ok (.ishr, 1) := by decide +kernel
theorem dX6_isOf_3 : decode cX6_isOf 3 = .ok (.iconst 1, 1) := by decide +kernel
theorem dX6_isOf_4 : decode cX6_isOf 4 = .ok (.iand, 1) := by decide +kernel
theorem dX6_isOf_5 : decode cX6_isOf 5 = .ok (.iconst 1, 1) := by decide +kernel
theorem dX6_isOf_6 : decode cX6_isOf 6 = .ok (.if_icmp .ne 7, 3) := by decide +kernel
theorem dX6_isOf_9 : decode cX6_isOf 9 = .ok (.iconst 1, 1) := by decide +kernel
theorem dX6_isOf_10 : decode cX6_isOf 10 = .ok (.goto 4, 3) := by decide +kernel
theorem dX6_isOf_13 : decode cX6_isOf 13 = .ok (.iconst 0, 1) := by decide +kernel
theorem dX6_isOf_14 : decode cX6_isOf 14 = .ok (.ireturn, 1) := by decide +kernel
theorem dX6_bitsOf_0 : decode cX6_bitsOf 0 = .ok (.iconst 0, 1) := by decide +kernel
theorem dX6_bitsOf_1 : decode cX6_bitsOf 1 = .ok (.istore_n 1, 1) := by decide +kernel
theorem dX6_bitsOf_2 : decode cX6_bitsOf 2 = .ok (.iload_n 0, 1) := by decide +kernel
theorem dX6_bitsOf_3 : decode cX6_bitsOf 3 = .ok (.istore_n 2, 1) := by decide +kernel
theorem dX6_bitsOf_4 : decode cX6_bitsOf 4 = .ok (.iload_n 2, 1) := by decide +kernel
theorem dX6_bitsOf_5 : decode cX6_bitsOf 5 = .ok (.ifCond .eq 15, 3) := by decide +kernel
theorem dX6_bitsOf_8 : decode cX6_bitsOf 8 = .ok (.iinc 1 1, 3) := by decide +kernel
theorem dX6_bitsOf_11 : decode cX6_bitsOf 11 = .ok (.iload_n 2, 1) := by decide +kernel
theorem dX6_bitsOf_12 : decode cX6_bitsOf 12 = .ok (.iload_n 2, 1) := by decide +kernel
theorem dX6_bitsOf_13 : decode cX6_bitsOf 13 = .ok (.iconst 1, 1) := by decide +kernel
theorem dX6_bitsOf_14 : decode cX6_bitsOf 14 = .ok (.isub, 1) := by decide +kernel
theorem dX6_bitsOf_15 : decode cX6_bitsOf 15 = .ok (.iand, 1) := by decide +kernel
theorem dX6_bitsOf_16 : decode cX6_bitsOf 16 = .ok (.istore_n 2, 1) := by decide +kernel
theorem dX6_bitsOf_17 : decode cX6_bitsOf 17 = .ok (.goto (-13), 3) := by decide +kernel
theorem dX6_bitsOf_20 : decode cX6_bitsOf 20 = .ok (.iload_n 1, 1) := by decide +kernel
theorem dX6_bitsOf_21 : decode cX6_bitsOf 21 = .ok (.ireturn, 1) := by decide +kernel
theorem dX6_ringOf_0 : decode cX6_ringOf 0 = .ok (.iload_n 0, 1) := by decide +kernel
theorem dX6_ringOf_1 : decode cX6_ringOf 1 = .ok (.iload_n 1, 1) := by decide +kernel
theorem dX6_ringOf_2 : decode cX6_ringOf 2 = .ok (.irem, 1) := by decide +kernel
theorem dX6_ringOf_3 : decode cX6_ringOf 3 = .ok (.istore_n 2, 1) := by decide +kernel
theorem dX6_ringOf_4 : decode cX6_ringOf 4 = .ok (.iload_n 2, 1) := by decide +kernel
theorem dX6_ringOf_5 : decode cX6_ringOf 5 = .ok (.ifCond .ge 9, 3) := by decide +kernel
theorem dX6_ringOf_8 : decode cX6_ringOf 8 = .ok (.iload_n 2, 1) := by decide +kernel
theorem dX6_ringOf_9 : decode cX6_ringOf 9 = .ok (.iload_n 1, 1) := by decide +kernel
theorem dX6_ringOf_10 : decode cX6_ringOf 10 = .ok (.iadd, 1) := by decide +kernel
theorem dX6_ringOf_11 : decode cX6_ringOf 11 = .ok (.goto 4, 3) := by decide +kernel
theorem dX6_ringOf_14 : decode cX6_ringOf 14 = .ok (.iload_n 2, 1) := by decide +kernel
theorem dX6_ringOf_15 : decode cX6_ringOf 15 = .ok (.ireturn, 1) := by decide +kernel
theorem dX6_isLeaf_0 : decode cX6_isLeaf 0 = .ok (.iload_n 1, 1) := by decide +kernel
theorem dX6_isLeaf_1 : decode cX6_isLeaf 1 = .ok (.i2l, 1) := by decide +kernel
theorem dX6_isLeaf_2 : decode cX6_isLeaf 2 = .ok (.lconst 0, 1) := by decide +kernel
theorem dX6_isLeaf_3 : decode cX6_isLeaf 3 = .ok (.aload_n 0, 1) := by decide +kernel
theorem dX6_isLeaf_4 : decode cX6_isLeaf 4 = .ok (.getfield 42, 3) := by decide +kernel
theorem dX6_isLeaf_7 : decode cX6_isLeaf 7 = .ok (.iconst 0, 1) := by decide +kernel
theorem dX6_isLeaf_8 : decode cX6_isLeaf 8 = .ok (.iaload, 1) := by decide +kernel
theorem dX6_isLeaf_9 : decode cX6_isLeaf 9 = .ok (.iconst 1, 1) := by decide +kernel
theorem dX6_isLeaf_10 : decode cX6_isLeaf 10 = .ok (.isub, 1) := by decide +kernel
theorem dX6_isLeaf_11 : decode cX6_isLeaf 11 = .ok (.i2l, 1) := by decide +kernel
theorem dX6_isLeaf_12 : decode cX6_isLeaf 12 = .ok (.invokestatic 160, 3) := by decide +kernel
theorem dX6_isLeaf_15 : decode cX6_isLeaf 15 = .ok (.ireturn, 1) := by decide +kernel
theorem dX6_isJudge_0 : decode cX6_isJudge 0 = .ok (.iload_n 1, 1) := by decide +kernel
theorem dX6_isJudge_1 : decode cX6_isJudge 1 = .ok (.i2l, 1) := by decide +kernel
theorem dX6_isJudge_2 : decode cX6_isJudge 2 = .ok (.lconst 0, 1) := by decide +kernel
theorem dX6_isJudge_3 : decode cX6_isJudge 3 = .ok (.aload_n 0, 1) := by decide +kernel
theorem dX6_isJudge_4 : decode cX6_isJudge 4 = .ok (.getfield 42, 3) := by decide +kernel
theorem dX6_isJudge_7 : decode cX6_isJudge 7 = .ok (.iconst 1, 1) := by decide +kernel
theorem dX6_isJudge_8 : decode cX6_isJudge 8 = .ok (.iaload, 1) := by decide +kernel
theorem dX6_isJudge_9 : decode cX6_isJudge 9 = .ok (.iconst 1, 1) := by decide +kernel
theorem dX6_isJudge_10 : decode cX6_isJudge 10 = .ok (.isub, 1) := by decide +kernel
theorem dX6_isJudge_11 : decode cX6_isJudge 11 = .ok (.i2l, 1) := by decide +kernel
theorem dX6_isJudge_12 : decode cX6_isJudge 12 = .ok (.invokestatic 160, 3) := by decide +kernel
theorem dX6_isJudge_15 : decode cX6_isJudge 15 = .ok (.ireturn, 1) := by decide +kernel
theorem dX6_isVerdict_0 : decode cX6_isVerdict 0 = .ok (.iload_n 0, 1) := by decide +kernel
theorem dX6_isVerdict_1 : decode cX6_isVerdict 1 = .ok (.i2l, 1) := by decide +kernel
theorem dX6_isVerdict_2 : decode cX6_isVerdict 2 = .ok (.lconst 0, 1) := by decide +kernel
theorem dX6_isVerdict_3 : decode cX6_isVerdict 3 = .ok (.ldc2_w 164, 3) := by decide +kernel
theorem dX6_isVerdict_6 : decode cX6_isVerdict 6 = .ok (.invokestatic 160, 3) := by decide +kernel
theorem dX6_isVerdict_9 : decode cX6_isVerdict 9 = .ok (.ireturn, 1) := by decide +kernel
theorem dX6_isPlace_0 : decode cX6_isPlace 0 = .ok (.iload_n 0, 1) := by decide +kernel
theorem dX6_isPlace_1 : decode cX6_isPlace 1 = .ok (.i2l, 1) := by decide +kernel
theorem dX6_isPlace_2 : decode cX6_isPlace 2 = .ok (.lconst 0, 1) := by decide +kernel
theorem dX6_isPlace_3 : decode cX6_isPlace 3 = .ok (.ldc2_w 166, 3) := by decide +kernel
theorem dX6_isPlace_6 : decode cX6_isPlace 6 = .ok (.invokestatic 160, 3) := by decide +kernel
theorem dX6_isPlace_9 : decode cX6_isPlace 9 = .ok (.ireturn, 1) := by decide +kernel
theorem dX6_feed_0 : decode cX6_feed 0 = .ok (.aload_n 0, 1) := by decide +kernel
theorem dX6_feed_1 : decode cX6_feed 1 = .ok (.iconst 0, 1) := by decide +kernel
theorem dX6_feed_2 : decode cX6_feed 2 = .ok (.putfield 157, 3) := by decide +kernel
theorem dX6_feed_5 : decode cX6_feed 5 = .ok (.aload_n 0, 1) := by decide +kernel
theorem dX6_feed_6 : decode cX6_feed 6 = .ok (.getfield 168, 3) := by decide +kernel
theorem dX6_feed_9 : decode cX6_feed 9 = .ok (.bipush 20, 2) := by decide +kernel
theorem dX6_feed_11 : decode cX6_feed 11 = .ok (.iadd, 1) := by decide +kernel
theorem dX6_feed_12 : decode cX6_feed 12 = .ok (.sipush 700, 3) := by decide +kernel
theorem dX6_feed_15 : decode cX6_feed 15 = .ok (.if_icmp .le 5, 3) := by decide +kernel
theorem dX6_feed_18 : decode cX6_feed 18 = .ok (.iconst (-1), 1) := by decide +kernel
theorem dX6_feed_19 : decode cX6_feed 19 = .ok (.ireturn, 1) := by decide +kernel
theorem dX6_feed_20 : decode cX6_feed 20 = .ok (.iconst 0, 1) := by decide +kernel
theorem dX6_feed_21 : decode cX6_feed 21 = .ok (.istore 6, 2) := by decide +kernel
theorem dX6_feed_23 : decode cX6_feed 23 = .ok (.iload 6, 2) := by decide +kernel
theorem dX6_feed_25 : decode cX6_feed 25 = .ok (.bipush 20, 2) := by decide +kernel
theorem dX6_feed_27 : decode cX6_feed 27 = .ok (.if_icmp .ge 93, 3) := by decide +kernel
theorem dX6_feed_30 : decode cX6_feed 30 = .ok (.iload 6, 2) := by decide +kernel
theorem dX6_feed_32 : decode cX6_feed 32 = .ok (.iconst 4, 1) := by decide +kernel
theorem dX6_feed_33 : decode cX6_feed 33 = .ok (.if_icmp .ge 7, 3) := by decide +kernel
theorem dX6_feed_36 : decode cX6_feed 36 = .ok (.iload_n 1, 1) := by decide +kernel
theorem dX6_feed_37 : decode cX6_feed 37 = .ok (.goto 39, 3) := by decide +kernel
theorem dX6_feed_40 : decode cX6_feed 40 = .ok (.iload 6, 2) := by decide +kernel
theorem dX6_feed_42 : decode cX6_feed 42 = .ok (.bipush 8, 2) := by decide +kernel
theorem dX6_feed_44 : decode cX6_feed 44 = .ok (.if_icmp .ge 7, 3) := by decide +kernel
theorem dX6_feed_47 : decode cX6_feed 47 = .ok (.iload_n 2, 1) := by decide +kernel
theorem dX6_feed_48 : decode cX6_feed 48 = .ok (.goto 28, 3) := by decide +kernel
theorem dX6_feed_51 : decode cX6_feed 51 = .ok (.iload 6, 2) := by decide +kernel
theorem dX6_feed_53 : decode cX6_feed 53 = .ok (.bipush 12, 2) := by decide +kernel
theorem dX6_feed_55 : decode cX6_feed 55 = .ok (.if_icmp .ge 7, 3) := by decide +kernel
theorem dX6_feed_58 : decode cX6_feed 58 = .ok (.iload_n 3, 1) := by decide +kernel
theorem dX6_feed_59 : decode cX6_feed 59 = .ok (.goto 17, 3) := by decide +kernel
theorem dX6_feed_62 : decode cX6_feed 62 = .ok (.iload 6, 2) := by decide +kernel
theorem dX6_feed_64 : decode cX6_feed 64 = .ok (.bipush 16, 2) := by decide +kernel
theorem dX6_feed_66 : decode cX6_feed 66 = .ok (.if_icmp .ge 8, 3) := by decide +kernel
theorem dX6_feed_69 : decode cX6_feed 69 = .ok (.iload 4, 2) := by decide +kernel
theorem dX6_feed_71 : decode cX6_feed 71 = .ok (.goto 5, 3) := by decide +kernel
theorem dX6_feed_74 : decode cX6_feed 74 = .ok (.iload 5, 2) := by decide +kernel
theorem dX6_feed_76 : decode cX6_feed 76 = .ok (.istore 7, 2) := by decide +kernel
theorem dX6_feed_78 : decode cX6_feed 78 = .ok (.aload_n 0, 1) := by decide +kernel
theorem dX6_feed_79 : decode cX6_feed 79 = .ok (.getfield 75, 3) := by decide +kernel
theorem dX6_feed_82 : decode cX6_feed 82 = .ok (.aload_n 0, 1) := by decide +kernel
theorem dX6_feed_83 : decode cX6_feed 83 = .ok (.getfield 168, 3) := by decide +kernel
theorem dX6_feed_86 : decode cX6_feed 86 = .ok (.iload 7, 2) := by decide +kernel
theorem dX6_feed_88 : decode cX6_feed 88 = .ok (.bipush 24, 2) := by decide +kernel
theorem dX6_feed_90 : decode cX6_feed 90 = .ok (.bipush 8, 2) := by decide +kernel
theorem dX6_feed_92 : decode cX6_feed 92 = .ok (.iload 6, 2) := by decide +kernel
theorem dX6_feed_94 : decode cX6_feed 94 = .ok (.iconst 4, 1) := by decide +kernel
theorem dX6_feed_95 : decode cX6_feed 95 = .ok (.irem, 1) := by decide +kernel
theorem dX6_feed_96 : decode cX6_feed 96 = .ok (.imul, 1) := by decide +kernel
theorem dX6_feed_97 : decode cX6_feed 97 = .ok (.isub, 1) := by decide +kernel
theorem dX6_feed_98 : decode cX6_feed 98 = .ok (.ishr, 1) := by decide +kernel
theorem dX6_feed_99 : decode cX6_feed 99 = .ok (.sipush 255, 3) := by decide +kernel
theorem dX6_feed_102 : decode cX6_feed 102 = .ok (.iand, 1) := by decide +kernel
theorem dX6_feed_103 : decode cX6_feed 103 = .ok (.iastore, 1) := by decide +kernel
theorem dX6_feed_104 : decode cX6_feed 104 = .ok (.aload_n 0, 1) := by decide +kernel
theorem dX6_feed_105 : decode cX6_feed 105 = .ok (.dup, 1) := by decide +kernel
theorem dX6_feed_106 : decode cX6_feed 106 = .ok (.getfield 168, 3) := by decide +kernel
theorem dX6_feed_109 : decode cX6_feed 109 = .ok (.iconst 1, 1) := by decide +kernel
theorem dX6_feed_110 : decode cX6_feed 110 = .ok (.iadd, 1) := by decide +kernel
theorem dX6_feed_111 : decode cX6_feed 111 = .ok (.putfield 168, 3) := by decide +kernel
theorem dX6_feed_114 : decode cX6_feed 114 = .ok (.iinc 6 1, 3) := by decide +kernel
theorem dX6_feed_117 : decode cX6_feed 117 = .ok (.goto (-94), 3) := by decide +kernel
theorem dX6_feed_120 : decode cX6_feed 120 = .ok (.aload_n 0, 1) := by decide +kernel
theorem dX6_feed_121 : decode cX6_feed 121 = .ok (.getfield 168, 3) := by decide +kernel
theorem dX6_feed_124 : decode cX6_feed 124 = .ok (.ireturn, 1) := by decide +kernel
theorem dX6_byteAt_0 : decode cX6_byteAt 0 = .ok (.iload_n 1, 1) := by decide +kernel
theorem dX6_byteAt_1 : decode cX6_byteAt 1 = .ok (.aload_n 0, 1) := by decide +kernel
theorem dX6_byteAt_2 : decode cX6_byteAt 2 = .ok (.getfield 171, 3) := by decide +kernel
theorem dX6_byteAt_5 : decode cX6_byteAt 5 = .ok (.if_icmp .ge 12, 3) := by decide +kernel
theorem dX6_byteAt_8 : decode cX6_byteAt 8 = .ok (.aload_n 0, 1) := by decide +kernel
theorem dX6_byteAt_9 : decode cX6_byteAt 9 = .ok (.getfield 75, 3) := by decide +kernel
theorem dX6_byteAt_12 : decode cX6_byteAt 12 = .ok (.iload_n 1, 1) := by decide +kernel
theorem dX6_byteAt_13 : decode cX6_byteAt 13 = .ok (.iaload, 1) := by decide +kernel
theorem dX6_byteAt_14 : decode cX6_byteAt 14 = .ok (.goto 4, 3) := by decide +kernel
theorem dX6_byteAt_17 : decode cX6_byteAt 17 = .ok (.iconst (-1), 1) := by decide +kernel
theorem dX6_byteAt_18 : decode cX6_byteAt 18 = .ok (.ireturn, 1) := by decide +kernel
theorem dX6_isLetter_0 : decode cX6_isLetter 0 = .ok (.iload_n 0, 1) := by decide +kernel
theorem dX6_isLetter_1 : decode cX6_isLetter 1 = .ok (.bipush 97, 2) := by decide +kernel
theorem dX6_isLetter_3 : decode cX6_isLetter 3 = .ok (.if_icmp .lt 13, 3) := by decide +kernel
theorem dX6_isLetter_6 : decode cX6_isLetter 6 = .ok (.iload_n 0, 1) := by decide +kernel
theorem dX6_isLetter_7 : decode cX6_isLetter 7 = .ok (.bipush 122, 2) := by decide +kernel
theorem dX6_isLetter_9 : decode cX6_isLetter 9 = .ok (.if_icmp .gt 7, 3) := by decide +kernel
theorem dX6_isLetter_12 : decode cX6_isLetter 12 = .ok (.iconst 1, 1) := by decide +kernel
theorem dX6_isLetter_13 : decode cX6_isLetter 13 = .ok (.goto 4, 3) := by decide +kernel
theorem dX6_isLetter_16 : decode cX6_isLetter 16 = .ok (.iconst 0, 1) := by decide +kernel
theorem dX6_isLetter_17 : decode cX6_isLetter 17 = .ok (.ireturn, 1) := by decide +kernel
theorem dX6_isDigit_0 : decode cX6_isDigit 0 = .ok (.iload_n 0, 1) := by decide +kernel
theorem dX6_isDigit_1 : decode cX6_isDigit 1 = .ok (.bipush 48, 2) := by decide +kernel
theorem dX6_isDigit_3 : decode cX6_isDigit 3 = .ok (.if_icmp .lt 13, 3) := by decide +kernel
theorem dX6_isDigit_6 : decode cX6_isDigit 6 = .ok (.iload_n 0, 1) := by decide +kernel
theorem dX6_isDigit_7 : decode cX6_isDigit 7 = .ok (.bipush 57, 2) := by decide +kernel
theorem dX6_isDigit_9 : decode cX6_isDigit 9 = .ok (.if_icmp .gt 7, 3) := by decide +kernel
theorem dX6_isDigit_12 : decode cX6_isDigit 12 = .ok (.iconst 1, 1) := by decide +kernel
theorem dX6_isDigit_13 : decode cX6_isDigit 13 = .ok (.goto 4, 3) := by decide +kernel
theorem dX6_isDigit_16 : decode cX6_isDigit 16 = .ok (.iconst 0, 1) := by decide +kernel
theorem dX6_isDigit_17 : decode cX6_isDigit 17 = .ok (.ireturn, 1) := by decide +kernel
theorem dX6_isMark_0 : decode cX6_isMark 0 = .ok (.iload_n 0, 1) := by decide +kernel
theorem dX6_isMark_1 : decode cX6_isMark 1 = .ok (.bipush 59, 2) := by decide +kernel
theorem dX6_isMark_3 : decode cX6_isMark 3 = .ok (.if_icmp .eq 51, 3) := by decide +kernel
theorem dX6_isMark_6 : decode cX6_isMark 6 = .ok (.iload_n 0, 1) := by decide +kernel
theorem dX6_isMark_7 : decode cX6_isMark 7 = .ok (.bipush 40, 2) := by decide +kernel
theorem dX6_isMark_9 : decode cX6_isMark 9 = .ok (.if_icmp .eq 45, 3) := by decide +kernel
theorem dX6_isMark_12 : decode cX6_isMark 12 = .ok (.iload_n 0, 1) := by decide +kernel
theorem dX6_isMark_13 : decode cX6_isMark 13 = .ok (.bipush 41, 2) := by decide +kernel
theorem dX6_isMark_15 : decode cX6_isMark 15 = .ok (.if_icmp .eq 39, 3) := by decide +kernel
theorem dX6_isMark_18 : decode cX6_isMark 18 = .ok (.iload_n 0, 1) := by decide +kernel
theorem dX6_isMark_19 : decode cX6_isMark 19 = .ok (.bipush 43, 2) := by decide +kernel
theorem dX6_isMark_21 : decode cX6_isMark 21 = .ok (.if_icmp .eq 33, 3) := by decide +kernel
theorem dX6_isMark_24 : decode cX6_isMark 24 = .ok (.iload_n 0, 1) := by decide +kernel
theorem dX6_isMark_25 : decode cX6_isMark 25 = .ok (.bipush 45, 2) := by decide +kernel
theorem dX6_isMark_27 : decode cX6_isMark 27 = .ok (.if_icmp .eq 27, 3) := by decide +kernel
theorem dX6_isMark_30 : decode cX6_isMark 30 = .ok (.iload_n 0, 1) := by decide +kernel
theorem dX6_isMark_31 : decode cX6_isMark 31 = .ok (.bipush 42, 2) := by decide +kernel
theorem dX6_isMark_33 : decode cX6_isMark 33 = .ok (.if_icmp .eq 21, 3) := by decide +kernel
theorem dX6_isMark_36 : decode cX6_isMark 36 = .ok (.iload_n 0, 1) := by decide +kernel
theorem dX6_isMark_37 : decode cX6_isMark 37 = .ok (.bipush 47, 2) := by decide +kernel
theorem dX6_isMark_39 : decode cX6_isMark 39 = .ok (.if_icmp .eq 15, 3) := by decide +kernel
theorem dX6_isMark_42 : decode cX6_isMark 42 = .ok (.iload_n 0, 1) := by decide +kernel
theorem dX6_isMark_43 : decode cX6_isMark 43 = .ok (.bipush 60, 2) := by decide +kernel
theorem dX6_isMark_45 : decode cX6_isMark 45 = .ok (.if_icmp .eq 9, 3) := by decide +kernel
theorem dX6_isMark_48 : decode cX6_isMark 48 = .ok (.iload_n 0, 1) := by decide +kernel
theorem dX6_isMark_49 : decode cX6_isMark 49 = .ok (.bipush 61, 2) := by decide +kernel
theorem dX6_isMark_51 : decode cX6_isMark 51 = .ok (.if_icmp .ne 7, 3) := by decide +kernel
theorem dX6_isMark_54 : decode cX6_isMark 54 = .ok (.iconst 1, 1) := by decide +kernel
theorem dX6_isMark_55 : decode cX6_isMark 55 = .ok (.goto 4, 3) := by decide +kernel
theorem dX6_isMark_58 : decode cX6_isMark 58 = .ok (.iconst 0, 1) := by decide +kernel
theorem dX6_isMark_59 : decode cX6_isMark 59 = .ok (.ireturn, 1) := by decide +kernel
theorem dX6_stepOn_0 : decode cX6_stepOn 0 = .ok (.aload_n 0, 1) := by decide +kernel
theorem dX6_stepOn_1 : decode cX6_stepOn 1 = .ok (.aload_n 0, 1) := by decide +kernel
theorem dX6_stepOn_2 : decode cX6_stepOn 2 = .ok (.getfield 174, 3) := by decide +kernel
theorem dX6_stepOn_5 : decode cX6_stepOn 5 = .ok (.invokevirtual 177, 3) := by decide +kernel
theorem dX6_stepOn_8 : decode cX6_stepOn 8 = .ok (.bipush 32, 2) := by decide +kernel
theorem dX6_stepOn_10 : decode cX6_stepOn 10 = .ok (.if_icmp .eq 16, 3) := by decide +kernel
theorem dX6_stepOn_13 : decode cX6_stepOn 13 = .ok (.aload_n 0, 1) := by decide +kernel
theorem dX6_stepOn_14 : decode cX6_stepOn 14 = .ok (.aload_n 0, 1) := by decide +kernel
theorem dX6_stepOn_15 : decode cX6_stepOn 15 = .ok (.getfield 174, 3) := by decide +kernel
theorem dX6_stepOn_18 : decode cX6_stepOn 18 = .ok (.invokevirtual 177, 3) := by decide +kernel
theorem dX6_stepOn_21 : decode cX6_stepOn 21 = .ok (.bipush 10, 2) := by decide +kernel
theorem dX6_stepOn_23 : decode cX6_stepOn 23 = .ok (.if_icmp .ne 16, 3) := by decide +kernel
theorem dX6_stepOn_26 : decode cX6_stepOn 26 = .ok (.aload_n 0, 1) := by decide +kernel
theorem dX6_stepOn_27 : decode cX6_stepOn 27 = .ok (.dup, 1) := by decide +kernel
theorem dX6_stepOn_28 : decode cX6_stepOn 28 = .ok (.getfield 174, 3) := by decide +kernel
theorem dX6_stepOn_31 : decode cX6_stepOn 31 = .ok (.iconst 1, 1) := by decide +kernel
theorem dX6_stepOn_32 : decode cX6_stepOn 32 = .ok (.iadd, 1) := by decide +kernel
theorem dX6_stepOn_33 : decode cX6_stepOn 33 = .ok (.putfield 174, 3) := by decide +kernel
theorem dX6_stepOn_36 : decode cX6_stepOn 36 = .ok (.goto (-36), 3) := by decide +kernel
theorem dX6_stepOn_39 : decode cX6_stepOn 39 = .ok (.aload_n 0, 1) := by decide +kernel
theorem dX6_stepOn_40 : decode cX6_stepOn 40 = .ok (.aload_n 0, 1) := by decide +kernel
theorem dX6_stepOn_41 : decode cX6_stepOn 41 = .ok (.getfield 174, 3) := by decide +kernel
theorem dX6_stepOn_44 : decode cX6_stepOn 44 = .ok (.putfield 181, 3) := by decide +kernel
theorem dX6_stepOn_47 : decode cX6_stepOn 47 = .ok (.aload_n 0, 1) := by decide +kernel
theorem dX6_stepOn_48 : decode cX6_stepOn 48 = .ok (.aload_n 0, 1) := by decide +kernel
theorem dX6_stepOn_49 : decode cX6_stepOn 49 = .ok (.getfield 174, 3) := by decide +kernel
theorem dX6_stepOn_52 : decode cX6_stepOn 52 = .ok (.invokevirtual 177, 3) := by decide +kernel
theorem dX6_stepOn_55 : decode cX6_stepOn 55 = .ok (.istore_n 1, 1) := by decide +kernel
theorem dX6_stepOn_56 : decode cX6_stepOn 56 = .ok (.iload_n 1, 1) := by decide +kernel
theorem dX6_stepOn_57 : decode cX6_stepOn 57 = .ok (.iconst (-1), 1) := by decide +kernel
theorem dX6_stepOn_58 : decode cX6_stepOn 58 = .ok (.if_icmp .ne 11, 3) := by decide +kernel
theorem dX6_stepOn_61 : decode cX6_stepOn 61 = .ok (.aload_n 0, 1) := by decide +kernel
theorem dX6_stepOn_62 : decode cX6_stepOn 62 = .ok (.iconst 0, 1) := by decide +kernel
theorem dX6_stepOn_63 : decode cX6_stepOn 63 = .ok (.putfield 184, 3) := by decide +kernel
theorem dX6_stepOn_66 : decode cX6_stepOn 66 = .ok (.goto 146, 3) := by decide +kernel
theorem dX6_stepOn_69 : decode cX6_stepOn 69 = .ok (.iload_n 1, 1) := by decide +kernel
theorem dX6_stepOn_70 : decode cX6_stepOn 70 = .ok (.invokestatic 187, 3) := by decide +kernel
theorem dX6_stepOn_73 : decode cX6_stepOn 73 = .ok (.ifCond .eq 38, 3) := by decide +kernel
theorem dX6_stepOn_76 : decode cX6_stepOn 76 = .ok (.aload_n 0, 1) := by decide +kernel
theorem dX6_stepOn_77 : decode cX6_stepOn 77 = .ok (.aload_n 0, 1) := by decide +kernel
theorem dX6_stepOn_78 : decode cX6_stepOn 78 = .ok (.getfield 174, 3) := by decide +kernel
theorem dX6_stepOn_81 : decode cX6_stepOn 81 = .ok (.invokevirtual 177, 3) := by decide +kernel
theorem dX6_stepOn_84 : decode cX6_stepOn 84 = .ok (.invokestatic 187, 3) := by decide +kernel
theorem dX6_stepOn_87 : decode cX6_stepOn 87 = .ok (.ifCond .eq 16, 3) := by decide +kernel
theorem dX6_stepOn_90 : decode cX6_stepOn 90 = .ok (.aload_n 0, 1) := by decide +kernel
theorem dX6_stepOn_91 : decode cX6_stepOn 91 = .ok (.dup, 1) := by decide +kernel
theorem dX6_stepOn_92 : decode cX6_stepOn 92 = .ok (.getfield 174, 3) := by decide +kernel
theorem dX6_stepOn_95 : decode cX6_stepOn 95 = .ok (.iconst 1, 1) := by decide +kernel
theorem dX6_stepOn_96 : decode cX6_stepOn 96 = .ok (.iadd, 1) := by decide +kernel
theorem dX6_stepOn_97 : decode cX6_stepOn 97 = .ok (.putfield 174, 3) := by decide +kernel
theorem dX6_stepOn_100 : decode cX6_stepOn 100 = .ok (.goto (-24), 3) := by decide +kernel
theorem dX6_stepOn_103 : decode cX6_stepOn 103 = .ok (.aload_n 0, 1) := by decide +kernel
theorem dX6_stepOn_104 : decode cX6_stepOn 104 = .ok (.iconst 1, 1) := by decide +kernel
theorem dX6_stepOn_105 : decode cX6_stepOn 105 = .ok (.putfield 184, 3) := by decide +kernel
theorem dX6_stepOn_108 : decode cX6_stepOn 108 = .ok (.goto 104, 3) := by decide +kernel
theorem dX6_stepOn_111 : decode cX6_stepOn 111 = .ok (.iload_n 1, 1) := by decide +kernel
theorem dX6_stepOn_112 : decode cX6_stepOn 112 = .ok (.invokestatic 191, 3) := by decide +kernel
theorem dX6_stepOn_115 : decode cX6_stepOn 115 = .ok (.ifCond .eq 71, 3) := by decide +kernel
theorem dX6_stepOn_118 : decode cX6_stepOn 118 = .ok (.aload_n 0, 1) := by decide +kernel
theorem dX6_stepOn_119 : decode cX6_stepOn 119 = .ok (.iconst 0, 1) := by decide +kernel
theorem dX6_stepOn_120 : decode cX6_stepOn 120 = .ok (.putfield 194, 3) := by decide +kernel
theorem dX6_stepOn_123 : decode cX6_stepOn 123 = .ok (.aload_n 0, 1) := by decide +kernel
theorem dX6_stepOn_124 : decode cX6_stepOn 124 = .ok (.aload_n 0, 1) := by decide +kernel
theorem dX6_stepOn_125 : decode cX6_stepOn 125 = .ok (.getfield 174, 3) := by decide +kernel
theorem dX6_stepOn_128 : decode cX6_stepOn 128 = .ok (.invokevirtual 177, 3) := by decide +kernel
theorem dX6_stepOn_131 : decode cX6_stepOn 131 = .ok (.invokestatic 191, 3) := by decide +kernel
theorem dX6_stepOn_134 : decode cX6_stepOn 134 = .ok (.ifCond .eq 44, 3) := by decide +kernel
theorem dX6_stepOn_137 : decode cX6_stepOn 137 = .ok (.aload_n 0, 1) := by decide +kernel
theorem dX6_stepOn_138 : decode cX6_stepOn 138 = .ok (.ldc 197, 2) := by decide +kernel
theorem dX6_stepOn_140 : decode cX6_stepOn 140 = .ok (.bipush 10, 2) := by decide +kernel
theorem dX6_stepOn_142 : decode cX6_stepOn 142 = .ok (.aload_n 0, 1) := by decide +kernel
theorem dX6_stepOn_143 : decode cX6_stepOn 143 = .ok (.getfield 194, 3) := by decide +kernel
theorem dX6_stepOn_146 : decode cX6_stepOn 146 = .ok (.imul, 1) := by decide +kernel
theorem dX6_stepOn_147 : decode cX6_stepOn 147 = .ok (.aload_n 0, 1) := by decide +kernel
theorem dX6_stepOn_148 : decode cX6_stepOn 148 = .ok (.aload_n 0, 1) := by decide +kernel
theorem dX6_stepOn_149 : decode cX6_stepOn 149 = .ok (.getfield 174, 3) := by decide +kernel
theorem dX6_stepOn_152 : decode cX6_stepOn 152 = .ok (.invokevirtual 177, 3) := by decide +kernel
theorem dX6_stepOn_155 : decode cX6_stepOn 155 = .ok (.iadd, 1) := by decide +kernel
theorem dX6_stepOn_156 : decode cX6_stepOn 156 = .ok (.bipush 48, 2) := by decide +kernel
theorem dX6_stepOn_158 : decode cX6_stepOn 158 = .ok (.isub, 1) := by decide +kernel
theorem dX6_stepOn_159 : decode cX6_stepOn 159 = .ok (.invokestatic 198, 3) := by decide +kernel
theorem dX6_stepOn_162 : decode cX6_stepOn 162 = .ok (.putfield 194, 3) := by decide +kernel
theorem dX6_stepOn_165 : decode cX6_stepOn 165 = .ok (.aload_n 0, 1) := by decide +kernel
theorem dX6_stepOn_166 : decode cX6_stepOn 166 = .ok (.dup, 1) := by decide +kernel
theorem dX6_stepOn_167 : decode cX6_stepOn 167 = .ok (.getfield 174, 3) := by decide +kernel
theorem dX6_stepOn_170 : decode cX6_stepOn 170 = .ok (.iconst 1, 1) := by decide +kernel
theorem dX6_stepOn_171 : decode cX6_stepOn 171 = .ok (.iadd, 1) := by decide +kernel
theorem dX6_stepOn_172 : decode cX6_stepOn 172 = .ok (.putfield 174, 3) := by decide +kernel
theorem dX6_stepOn_175 : decode cX6_stepOn 175 = .ok (.goto (-52), 3) := by decide +kernel
theorem dX6_stepOn_178 : decode cX6_stepOn 178 = .ok (.aload_n 0, 1) := by decide +kernel
theorem dX6_stepOn_179 : decode cX6_stepOn 179 = .ok (.iconst 2, 1) := by decide +kernel
theorem dX6_stepOn_180 : decode cX6_stepOn 180 = .ok (.putfield 184, 3) := by decide +kernel
theorem dX6_stepOn_183 : decode cX6_stepOn 183 = .ok (.goto 29, 3) := by decide +kernel
theorem dX6_stepOn_186 : decode cX6_stepOn 186 = .ok (.aload_n 0, 1) := by decide +kernel
theorem dX6_stepOn_187 : decode cX6_stepOn 187 = .ok (.dup, 1) := by decide +kernel
theorem dX6_stepOn_188 : decode cX6_stepOn 188 = .ok (.getfield 174, 3) := by decide +kernel
theorem dX6_stepOn_191 : decode cX6_stepOn 191 = .ok (.iconst 1, 1) := by decide +kernel
theorem dX6_stepOn_192 : decode cX6_stepOn 192 = .ok (.iadd, 1) := by decide +kernel
theorem dX6_stepOn_193 : decode cX6_stepOn 193 = .ok (.putfield 174, 3) := by decide +kernel
theorem dX6_stepOn_196 : decode cX6_stepOn 196 = .ok (.aload_n 0, 1) := by decide +kernel
theorem dX6_stepOn_197 : decode cX6_stepOn 197 = .ok (.iload_n 1, 1) := by decide +kernel
theorem dX6_stepOn_198 : decode cX6_stepOn 198 = .ok (.invokestatic 204, 3) := by decide +kernel
theorem dX6_stepOn_201 : decode cX6_stepOn 201 = .ok (.ifCond .eq 7, 3) := by decide +kernel
theorem dX6_stepOn_204 : decode cX6_stepOn 204 = .ok (.iconst 3, 1) := by decide +kernel
theorem dX6_stepOn_205 : decode cX6_stepOn 205 = .ok (.goto 4, 3) := by decide +kernel
theorem dX6_stepOn_208 : decode cX6_stepOn 208 = .ok (.iconst 4, 1) := by decide +kernel
theorem dX6_stepOn_209 : decode cX6_stepOn 209 = .ok (.putfield 184, 3) := by decide +kernel
theorem dX6_stepOn_212 : decode cX6_stepOn 212 = .ok (.aload_n 0, 1) := by decide +kernel
theorem dX6_stepOn_213 : decode cX6_stepOn 213 = .ok (.aload_n 0, 1) := by decide +kernel
theorem dX6_stepOn_214 : decode cX6_stepOn 214 = .ok (.getfield 174, 3) := by decide +kernel
theorem dX6_stepOn_217 : decode cX6_stepOn 217 = .ok (.putfield 207, 3) := by decide +kernel
theorem dX6_stepOn_220 : decode cX6_stepOn 220 = .ok (.return_, 1) := by decide +kernel
theorem dX6_wrong_0 : decode cX6_wrong 0 = .ok (.aload_n 0, 1) := by decide +kernel
theorem dX6_wrong_1 : decode cX6_wrong 1 = .ok (.getfield 210, 3) := by decide +kernel
theorem dX6_wrong_4 : decode cX6_wrong 4 = .ok (.ifCond .eq 4, 3) := by decide +kernel
theorem dX6_wrong_7 : decode cX6_wrong 7 = .ok (.return_, 1) := by decide +kernel
theorem dX6_wrong_8 : decode cX6_wrong 8 = .ok (.aload_n 0, 1) := by decide +kernel
theorem dX6_wrong_9 : decode cX6_wrong 9 = .ok (.iload_n 1, 1) := by decide +kernel
theorem dX6_wrong_10 : decode cX6_wrong 10 = .ok (.putfield 210, 3) := by decide +kernel
theorem dX6_wrong_13 : decode cX6_wrong 13 = .ok (.aload_n 0, 1) := by decide +kernel
theorem dX6_wrong_14 : decode cX6_wrong 14 = .ok (.aload_n 0, 1) := by decide +kernel
theorem dX6_wrong_15 : decode cX6_wrong 15 = .ok (.getfield 181, 3) := by decide +kernel
theorem dX6_wrong_18 : decode cX6_wrong 18 = .ok (.putfield 213, 3) := by decide +kernel
theorem dX6_wrong_21 : decode cX6_wrong 21 = .ok (.return_, 1) := by decide +kernel
theorem dX6_is_0 : decode cX6_is 0 = .ok (.aload_n 0, 1) := by decide +kernel
theorem dX6_is_1 : decode cX6_is 1 = .ok (.getfield 210, 3) := by decide +kernel
theorem dX6_is_4 : decode cX6_is 4 = .ok (.ifCond .ne 31, 3) := by decide +kernel
theorem dX6_is_7 : decode cX6_is 7 = .ok (.aload_n 0, 1) := by decide +kernel
theorem dX6_is_8 : decode cX6_is 8 = .ok (.getfield 184, 3) := by decide +kernel
theorem dX6_is_11 : decode cX6_is 11 = .ok (.iconst 1, 1) := by decide +kernel
theorem dX6_is_12 : decode cX6_is 12 = .ok (.if_icmp .ne 23, 3) := by decide +kernel
theorem dX6_is_15 : decode cX6_is 15 = .ok (.aload_n 1, 1) := by decide +kernel
theorem dX6_is_16 : decode cX6_is 16 = .ok (.invokevirtual 216, 3) := by decide +kernel
theorem dX6_is_19 : decode cX6_is 19 = .ok (.aload_n 0, 1) := by decide +kernel
theorem dX6_is_20 : decode cX6_is 20 = .ok (.getfield 207, 3) := by decide +kernel
theorem dX6_is_23 : decode cX6_is 23 = .ok (.aload_n 0, 1) := by decide +kernel
theorem dX6_is_24 : decode cX6_is 24 = .ok (.getfield 181, 3) := by decide +kernel
theorem dX6_is_27 : decode cX6_is 27 = .ok (.isub, 1) := by decide +kernel
theorem dX6_is_28 : decode cX6_is 28 = .ok (.if_icmp .ne 7, 3) := by decide +kernel
theorem dX6_is_31 : decode cX6_is 31 = .ok (.iconst 1, 1) := by decide +kernel
theorem dX6_is_32 : decode cX6_is 32 = .ok (.goto 4, 3) := by decide +kernel
theorem dX6_is_35 : decode cX6_is 35 = .ok (.iconst 0, 1) := by decide +kernel
theorem dX6_is_36 : decode cX6_is 36 = .ok (.istore_n 2, 1) := by decide +kernel
theorem dX6_is_37 : decode cX6_is 37 = .ok (.iconst 0, 1) := by decide +kernel
theorem dX6_is_38 : decode cX6_is 38 = .ok (.istore_n 3, 1) := by decide +kernel
theorem dX6_is_39 : decode cX6_is 39 = .ok (.iload_n 2, 1) := by decide +kernel
theorem dX6_is_40 : decode cX6_is 40 = .ok (.ifCond .eq 42, 3) := by decide +kernel
theorem dX6_is_43 : decode cX6_is 43 = .ok (.iload_n 3, 1) := by decide +kernel
theorem dX6_is_44 : decode cX6_is 44 = .ok (.aload_n 1, 1) := by decide +kernel
theorem dX6_is_45 : decode cX6_is 45 = .ok (.invokevirtual 216, 3) := by decide +kernel
theorem dX6_is_48 : decode cX6_is 48 = .ok (.if_icmp .ge 34, 3) := by decide +kernel
theorem dX6_is_51 : decode cX6_is 51 = .ok (.aload_n 1, 1) := by decide +kernel
theorem dX6_is_52 : decode cX6_is 52 = .ok (.iload_n 3, 1) := by decide +kernel
theorem dX6_is_53 : decode cX6_is 53 = .ok (.invokevirtual 220, 3) := by decide +kernel
theorem dX6_is_56 : decode cX6_is 56 = .ok (.aload_n 0, 1) := by decide +kernel
theorem dX6_is_57 : decode cX6_is 57 = .ok (.getfield 75, 3) := by decide +kernel
theorem dX6_is_60 : decode cX6_is 60 = .ok (.aload_n 0, 1) := by decide +kernel
theorem dX6_is_61 : decode cX6_is 61 = .ok (.getfield 181, 3) := by decide +kernel
theorem dX6_is_64 : decode cX6_is 64 = .ok (.iload_n 3, 1) := by decide +kernel
theorem dX6_is_65 : decode cX6_is 65 = .ok (.iadd, 1) := by decide +kernel
theorem dX6_is_66 : decode cX6_is 66 = .ok (.iaload, 1) := by decide +kernel
theorem dX6_is_67 : decode cX6_is 67 = .ok (.if_icmp .ne 7, 3) := by decide +kernel
theorem dX6_is_70 : decode cX6_is 70 = .ok (.iconst 1, 1) := by decide +kernel
theorem dX6_is_71 : decode cX6_is 71 = .ok (.goto 4, 3) := by decide +kernel
theorem dX6_is_74 : decode cX6_is 74 = .ok (.iconst 0, 1) := by decide +kernel
theorem dX6_is_75 : decode cX6_is 75 = .ok (.istore_n 2, 1) := by decide +kernel
theorem dX6_is_76 : decode cX6_is 76 = .ok (.iinc 3 1, 3) := by decide +kernel
theorem dX6_is_79 : decode cX6_is 79 = .ok (.goto (-40), 3) := by decide +kernel
theorem dX6_is_82 : decode cX6_is 82 = .ok (.iload_n 2, 1) := by decide +kernel
theorem dX6_is_83 : decode cX6_is 83 = .ok (.ireturn, 1) := by decide +kernel
theorem dX6_which_0 : decode cX6_which 0 = .ok (.iconst 0, 1) := by decide +kernel
theorem dX6_which_1 : decode cX6_which 1 = .ok (.istore_n 2, 1) := by decide +kernel
theorem dX6_which_2 : decode cX6_which 2 = .ok (.iload_n 2, 1) := by decide +kernel
theorem dX6_which_3 : decode cX6_which 3 = .ok (.aload_n 1, 1) := by decide +kernel
theorem dX6_which_4 : decode cX6_which 4 = .ok (.arraylength, 1) := by decide +kernel
theorem dX6_which_5 : decode cX6_which 5 = .ok (.if_icmp .ge 21, 3) := by decide +kernel
theorem dX6_which_8 : decode cX6_which 8 = .ok (.aload_n 0, 1) := by decide +kernel
theorem dX6_which_9 : decode cX6_which 9 = .ok (.aload_n 1, 1) := by decide +kernel
theorem dX6_which_10 : decode cX6_which 10 = .ok (.iload_n 2, 1) := by decide +kernel
theorem dX6_which_11 : decode cX6_which 11 = .ok (.aaload, 1) := by decide +kernel
theorem dX6_which_12 : decode cX6_which 12 = .ok (.invokevirtual 224, 3) := by decide +kernel
theorem dX6_which_15 : decode cX6_which 15 = .ok (.ifCond .eq 5, 3) := by decide +kernel
theorem dX6_which_18 : decode cX6_which 18 = .ok (.iload_n 2, 1) := by decide +kernel
theorem dX6_which_19 : decode cX6_which 19 = .ok (.ireturn, 1) := by decide +kernel
theorem dX6_which_20 : decode cX6_which 20 = .ok (.iinc 2 1, 3) := by decide +kernel
theorem dX6_which_23 : decode cX6_which 23 = .ok (.goto (-21), 3) := by decide +kernel
theorem dX6_which_26 : decode cX6_which 26 = .ok (.iconst (-1), 1) := by decide +kernel
theorem dX6_which_27 : decode cX6_which 27 = .ok (.ireturn, 1) := by decide +kernel
theorem dX6_isMarked_0 : decode cX6_isMarked 0 = .ok (.aload_n 0, 1) := by decide +kernel
theorem dX6_isMarked_1 : decode cX6_isMarked 1 = .ok (.getfield 210, 3) := by decide +kernel
theorem dX6_isMarked_4 : decode cX6_isMarked 4 = .ok (.ifCond .ne 28, 3) := by decide +kernel
theorem dX6_isMarked_7 : decode cX6_isMarked 7 = .ok (.aload_n 0, 1) := by decide +kernel
theorem dX6_isMarked_8 : decode cX6_isMarked 8 = .ok (.getfield 184, 3) := by decide +kernel
theorem dX6_isMarked_11 : decode cX6_isMarked 11 = .ok (.iconst 3, 1) := by decide +kernel
theorem dX6_isMarked_12 : decode cX6_isMarked 12 = .ok (.if_icmp .ne 20, 3) := by decide +kernel
theorem dX6_isMarked_15 : decode cX6_isMarked 15 = .ok (.aload_n 0, 1) := by decide +kernel
theorem dX6_isMarked_16 : decode cX6_isMarked 16 = .ok (.getfield 75, 3) := by decide +kernel
theorem dX6_isMarked_19 : decode cX6_isMarked 19 = .ok (.aload_n 0, 1) := by decide +kernel
theorem dX6_isMarked_20 : decode cX6_isMarked 20 = .ok (.getfield 181, 3) := by decide +kernel
theorem dX6_isMarked_23 : decode cX6_isMarked 23 = .ok (.iaload, 1) := by decide +kernel
theorem dX6_isMarked_24 : decode cX6_isMarked 24 = .ok (.iload_n 1, 1) := by decide +kernel
theorem dX6_isMarked_25 : decode cX6_isMarked 25 = .ok (.if_icmp .ne 7, 3) := by decide +kernel
theorem dX6_isMarked_28 : decode cX6_isMarked 28 = .ok (.iconst 1, 1) := by decide +kernel
theorem dX6_isMarked_29 : decode cX6_isMarked 29 = .ok (.goto 4, 3) := by decide +kernel
theorem dX6_isMarked_32 : decode cX6_isMarked 32 = .ok (.iconst 0, 1) := by decide +kernel
theorem dX6_isMarked_33 : decode cX6_isMarked 33 = .ok (.ireturn, 1) := by decide +kernel
theorem dX6_mark_0 : decode cX6_mark 0 = .ok (.aload_n 0, 1) := by decide +kernel
theorem dX6_mark_1 : decode cX6_mark 1 = .ok (.getfield 210, 3) := by decide +kernel
theorem dX6_mark_4 : decode cX6_mark 4 = .ok (.ifCond .ne 16, 3) := by decide +kernel
theorem dX6_mark_7 : decode cX6_mark 7 = .ok (.aload_n 0, 1) := by decide +kernel
theorem dX6_mark_8 : decode cX6_mark 8 = .ok (.iload_n 1, 1) := by decide +kernel
theorem dX6_mark_9 : decode cX6_mark 9 = .ok (.invokevirtual 228, 3) := by decide +kernel
theorem dX6_mark_12 : decode cX6_mark 12 = .ok (.ifCond .ne 8, 3) := by decide +kernel
theorem dX6_mark_15 : decode cX6_mark 15 = .ok (.aload_n 0, 1) := by decide +kernel
theorem dX6_mark_16 : decode cX6_mark 16 = .ok (.iconst 1, 1) := by decide +kernel
theorem dX6_mark_17 : decode cX6_mark 17 = .ok (.invokevirtual 231, 3) := by decide +kernel
theorem dX6_mark_20 : decode cX6_mark 20 = .ok (.aload_n 0, 1) := by decide +kernel
theorem dX6_mark_21 : decode cX6_mark 21 = .ok (.getfield 210, 3) := by decide +kernel
theorem dX6_mark_24 : decode cX6_mark 24 = .ok (.ifCond .ne 7, 3) := by decide +kernel
theorem dX6_mark_27 : decode cX6_mark 27 = .ok (.aload_n 0, 1) := by decide +kernel
theorem dX6_mark_28 : decode cX6_mark 28 = .ok (.invokevirtual 235, 3) := by decide +kernel
theorem dX6_mark_31 : decode cX6_mark 31 = .ok (.return_, 1) := by decide +kernel
theorem dX6_readNumber_0 : decode cX6_readNumber 0 = .ok (.aload_n 0, 1) := by decide +kernel
theorem dX6_readNumber_1 : decode cX6_readNumber 1 = .ok (.getfield 210, 3) := by decide +kernel
theorem dX6_readNumber_4 : decode cX6_readNumber 4 = .ok (.ifCond .eq 5, 3) := by decide +kernel
theorem dX6_readNumber_7 : decode cX6_readNumber 7 = .ok (.iconst 0, 1) := by decide +kernel
theorem dX6_readNumber_8 : decode cX6_readNumber 8 = .ok (.ireturn, 1) := by decide +kernel
theorem dX6_readNumber_9 : decode cX6_readNumber 9 = .ok (.aload_n 0, 1) := by decide +kernel
theorem dX6_readNumber_10 : decode cX6_readNumber 10 = .ok (.getfield 184, 3) := by decide +kernel
theorem dX6_readNumber_13 : decode cX6_readNumber 13 = .ok (.iconst 2, 1) := by decide +kernel
theorem dX6_readNumber_14 : decode cX6_readNumber 14 = .ok (.if_icmp .eq 11, 3) := by decide +kernel
theorem dX6_readNumber_17 : decode cX6_readNumber 17 = .ok (.aload_n 0, 1) := by decide +kernel
theorem dX6_readNumber_18 : decode cX6_readNumber 18 = .ok (.iconst 1, 1) := by decide +kernel
theorem dX6_readNumber_19 : decode cX6_readNumber 19 = .ok (.invokevirtual 231, 3) := by decide +kernel
theorem dX6_readNumber_22 : decode cX6_readNumber 22 = .ok (.goto 37, 3) := by decide +kernel
theorem dX6_readNumber_25 : decode cX6_readNumber 25 = .ok (.aload_n 0, 1) := by decide +kernel
theorem dX6_readNumber_26 : decode cX6_readNumber 26 = .ok (.getfield 207, 3) := by decide +kernel
theorem dX6_readNumber_29 : decode cX6_readNumber 29 = .ok (.aload_n 0, 1) := by decide +kernel
theorem dX6_readNumber_30 : decode cX6_readNumber 30 = .ok (.getfield 181, 3) := by decide +kernel
theorem dX6_readNumber_33 : decode cX6_readNumber 33 = .ok (.isub, 1) := by decide +kernel
theorem dX6_readNumber_34 : decode cX6_readNumber 34 = .ok (.iconst 4, 1) := by decide +kernel
theorem dX6_readNumber_35 : decode cX6_readNumber 35 = .ok (.if_icmp .gt 19, 3) := by decide +kernel
theorem dX6_readNumber_38 : decode cX6_readNumber 38 = .ok (.aload_n 0, 1) := by decide +kernel
theorem dX6_readNumber_39 : decode cX6_readNumber 39 = .ok (.getfield 194, 3) := by decide +kernel
theorem dX6_readNumber_42 : decode cX6_readNumber 42 = .ok (.iload_n 1, 1) := by decide +kernel
theorem dX6_readNumber_43 : decode cX6_readNumber 43 = .ok (.if_icmp .lt 11, 3) := by decide +kernel
theorem dX6_readNumber_46 : decode cX6_readNumber 46 = .ok (.aload_n 0, 1) := by decide +kernel
theorem dX6_readNumber_47 : decode cX6_readNumber 47 = .ok (.getfield 194, 3) := by decide +kernel
theorem dX6_readNumber_50 : decode cX6_readNumber 50 = .ok (.iload_n 2, 1) := by decide +kernel
theorem dX6_readNumber_51 : decode cX6_readNumber 51 = .ok (.if_icmp .le 8, 3) := by decide +kernel
theorem dX6_readNumber_54 : decode cX6_readNumber 54 = .ok (.aload_n 0, 1) := by decide +kernel
theorem dX6_readNumber_55 : decode cX6_readNumber 55 = .ok (.iconst 2, 1) := by decide +kernel
theorem dX6_readNumber_56 : decode cX6_readNumber 56 = .ok (.invokevirtual 231, 3) := by decide +kernel
theorem dX6_readNumber_59 : decode cX6_readNumber 59 = .ok (.aload_n 0, 1) := by decide +kernel
theorem dX6_readNumber_60 : decode cX6_readNumber 60 = .ok (.getfield 210, 3) := by decide +kernel
theorem dX6_readNumber_63 : decode cX6_readNumber 63 = .ok (.ifCond .ne 10, 3) := by decide +kernel
theorem dX6_readNumber_66 : decode cX6_readNumber 66 = .ok (.aload_n 0, 1) := by decide +kernel
theorem dX6_readNumber_67 : decode cX6_readNumber 67 = .ok (.getfield 194, 3) := by decide +kernel
theorem dX6_readNumber_70 : decode cX6_readNumber 70 = .ok (.goto 4, 3) := by decide +kernel
theorem dX6_readNumber_73 : decode cX6_readNumber 73 = .ok (.iconst 0, 1) := by decide +kernel
theorem dX6_readNumber_74 : decode cX6_readNumber 74 = .ok (.istore_n 3, 1) := by decide +kernel
theorem dX6_readNumber_75 : decode cX6_readNumber 75 = .ok (.aload_n 0, 1) := by decide +kernel
theorem dX6_readNumber_76 : decode cX6_readNumber 76 = .ok (.getfield 210, 3) := by decide +kernel
theorem dX6_readNumber_79 : decode cX6_readNumber 79 = .ok (.ifCond .ne 7, 3) := by decide +kernel
theorem dX6_readNumber_82 : decode cX6_readNumber 82 = .ok (.aload_n 0, 1) := by decide +kernel
theorem dX6_readNumber_83 : decode cX6_readNumber 83 = .ok (.invokevirtual 235, 3) := by decide +kernel
theorem dX6_readNumber_86 : decode cX6_readNumber 86 = .ok (.iload_n 3, 1) := by decide +kernel
theorem dX6_readNumber_87 : decode cX6_readNumber 87 = .ok (.ireturn, 1) := by decide +kernel
theorem dX6_lay_0 : decode cX6_lay 0 = .ok (.aload_n 0, 1) := by decide +kernel
theorem dX6_lay_1 : decode cX6_lay 1 = .ok (.getfield 210, 3) := by decide +kernel
theorem dX6_lay_4 : decode cX6_lay 4 = .ok (.ifCond .eq 4, 3) := by decide +kernel
theorem dX6_lay_7 : decode cX6_lay 7 = .ok (.return_, 1) := by decide +kernel
theorem dX6_lay_8 : decode cX6_lay 8 = .ok (.iconst 5, 1) := by decide +kernel
theorem dX6_lay_9 : decode cX6_lay 9 = .ok (.aload_n 0, 1) := by decide +kernel
theorem dX6_lay_10 : decode cX6_lay 10 = .ok (.getfield 238, 3) := by decide +kernel
theorem dX6_lay_13 : decode cX6_lay 13 = .ok (.ifCond .eq 7, 3) := by decide +kernel
theorem dX6_lay_16 : decode cX6_lay 16 = .ok (.iconst 4, 1) := by decide +kernel
theorem dX6_lay_17 : decode cX6_lay 17 = .ok (.goto 4, 3) := by decide +kernel
theorem dX6_lay_20 : decode cX6_lay 20 = .ok (.iconst 3, 1) := by decide +kernel
theorem dX6_lay_21 : decode cX6_lay 21 = .ok (.iadd, 1) := by decide +kernel
theorem dX6_lay_22 : decode cX6_lay 22 = .ok (.istore_n 2, 1) := by decide +kernel
theorem dX6_lay_23 : decode cX6_lay 23 = .ok (.aload_n 0, 1) := by decide +kernel
theorem dX6_lay_24 : decode cX6_lay 24 = .ok (.getfield 238, 3) := by decide +kernel
theorem dX6_lay_27 : decode cX6_lay 27 = .ok (.ifCond .eq 10, 3) := by decide +kernel
theorem dX6_lay_30 : decode cX6_lay 30 = .ok (.aload_n 0, 1) := by decide +kernel
theorem dX6_lay_31 : decode cX6_lay 31 = .ok (.getfield 67, 3) := by decide +kernel
theorem dX6_lay_34 : decode cX6_lay 34 = .ok (.goto 7, 3) := by decide +kernel
theorem dX6_lay_37 : decode cX6_lay 37 = .ok (.aload_n 0, 1) := by decide +kernel
theorem dX6_lay_38 : decode cX6_lay 38 = .ok (.getfield 64, 3) := by decide +kernel
theorem dX6_lay_41 : decode cX6_lay 41 = .ok (.astore_n 3, 1) := by decide +kernel
theorem dX6_lay_42 : decode cX6_lay 42 = .ok (.aload_n 3, 1) := by decide +kernel
theorem dX6_lay_43 : decode cX6_lay 43 = .ok (.sipush 700, 3) := by decide +kernel
theorem dX6_lay_46 : decode cX6_lay 46 = .ok (.aload_n 0, 1) := by decide +kernel
theorem dX6_lay_47 : decode cX6_lay 47 = .ok (.getfield 42, 3) := by decide +kernel
theorem dX6_lay_50 : decode cX6_lay 50 = .ok (.iload_n 2, 1) := by decide +kernel
theorem dX6_lay_51 : decode cX6_lay 51 = .ok (.iaload, 1) := by decide +kernel
theorem dX6_lay_52 : decode cX6_lay 52 = .ok (.iadd, 1) := by decide +kernel
theorem dX6_lay_53 : decode cX6_lay 53 = .ok (.iload_n 1, 1) := by decide +kernel
theorem dX6_lay_54 : decode cX6_lay 54 = .ok (.iastore, 1) := by decide +kernel
theorem dX6_lay_55 : decode cX6_lay 55 = .ok (.aload_n 0, 1) := by decide +kernel
theorem dX6_lay_56 : decode cX6_lay 56 = .ok (.getfield 42, 3) := by decide +kernel
theorem dX6_lay_59 : decode cX6_lay 59 = .ok (.iload_n 2, 1) := by decide +kernel
theorem dX6_lay_60 : decode cX6_lay 60 = .ok (.dup2, 1) := by decide +kernel
theorem dX6_lay_61 : decode cX6_lay 61 = .ok (.iaload, 1) := by decide +kernel
theorem dX6_lay_62 : decode cX6_lay 62 = .ok (.iconst 1, 1) := by decide +kernel
theorem dX6_lay_63 : decode cX6_lay 63 = .ok (.iadd, 1) := by decide +kernel
theorem dX6_lay_64 : decode cX6_lay 64 = .ok (.iastore, 1) := by decide +kernel
theorem dX6_lay_65 : decode cX6_lay 65 = .ok (.return_, 1) := by decide +kernel
theorem dX6_readPart_0 : decode cX6_readPart 0 = .ok (.aload_n 0, 1) := by decide +kernel
theorem dX6_readPart_1 : decode cX6_readPart 1 = .ok (.getfield 210, 3) := by decide +kernel
theorem dX6_readPart_4 : decode cX6_readPart 4 = .ok (.ifCond .eq 4, 3) := by decide +kernel
theorem dX6_readPart_7 : decode cX6_readPart 7 = .ok (.return_, 1) := by decide +kernel
theorem dX6_readPart_8 : decode cX6_readPart 8 = .ok (.aload_n 0, 1) := by decide +kernel
theorem dX6_readPart_9 : decode cX6_readPart 9 = .ok (.getfield 184, 3) := by decide +kernel
theorem dX6_readPart_12 : decode cX6_readPart 12 = .ok (.iconst 2, 1) := by decide +kernel
theorem dX6_readPart_13 : decode cX6_readPart 13 = .ok (.if_icmp .ne 16, 3) := by decide +kernel
theorem dX6_readPart_16 : decode cX6_readPart 16 = .ok (.aload_n 0, 1) := by decide +kernel
theorem dX6_readPart_17 : decode cX6_readPart 17 = .ok (.aload_n 0, 1) := by decide +kernel
theorem dX6_readPart_18 : decode cX6_readPart 18 = .ok (.iconst 0, 1) := by decide +kernel
theorem dX6_readPart_19 : decode cX6_readPart 19 = .ok (.sipush 9999, 3) := by decide +kernel
theorem dX6_readPart_22 : decode cX6_readPart 22 = .ok (.invokevirtual 242, 3) := by decide +kernel
theorem dX6_readPart_25 : decode cX6_readPart 25 = .ok (.invokevirtual 245, 3) := by decide +kernel
theorem dX6_readPart_28 : decode cX6_readPart 28 = .ok (.return_, 1) := by decide +kernel
theorem dX6_readPart_29 : decode cX6_readPart 29 = .ok (.aload_n 0, 1) := by decide +kernel
theorem dX6_readPart_30 : decode cX6_readPart 30 = .ok (.getfield 184, 3) := by decide +kernel
theorem dX6_readPart_33 : decode cX6_readPart 33 = .ok (.iconst 1, 1) := by decide +kernel
theorem dX6_readPart_34 : decode cX6_readPart 34 = .ok (.if_icmp .ne 41, 3) := by decide +kernel
theorem dX6_readPart_37 : decode cX6_readPart 37 = .ok (.aload_n 0, 1) := by decide +kernel
theorem dX6_readPart_38 : decode cX6_readPart 38 = .ok (.aload_n 0, 1) := by decide +kernel
theorem dX6_readPart_39 : decode cX6_readPart 39 = .ok (.getfield 39, 3) := by decide +kernel
theorem dX6_readPart_42 : decode cX6_readPart 42 = .ok (.invokevirtual 248, 3) := by decide +kernel
theorem dX6_readPart_45 : decode cX6_readPart 45 = .ok (.istore_n 2, 1) := by decide +kernel
theorem dX6_readPart_46 : decode cX6_readPart 46 = .ok (.iload_n 2, 1) := by decide +kernel
theorem dX6_readPart_47 : decode cX6_readPart 47 = .ok (.iconst (-1), 1) := by decide +kernel
theorem dX6_readPart_48 : decode cX6_readPart 48 = .ok (.if_icmp .ne 8, 3) := by decide +kernel
theorem dX6_readPart_51 : decode cX6_readPart 51 = .ok (.aload_n 0, 1) := by decide +kernel
theorem dX6_readPart_52 : decode cX6_readPart 52 = .ok (.iconst 3, 1) := by decide +kernel
theorem dX6_readPart_53 : decode cX6_readPart 53 = .ok (.invokevirtual 231, 3) := by decide +kernel
theorem dX6_readPart_56 : decode cX6_readPart 56 = .ok (.aload_n 0, 1) := by decide +kernel
theorem dX6_readPart_57 : decode cX6_readPart 57 = .ok (.iconst (-1), 1) := by decide +kernel
theorem dX6_readPart_58 : decode cX6_readPart 58 = .ok (.iload_n 2, 1) := by decide +kernel
theorem dX6_readPart_59 : decode cX6_readPart 59 = .ok (.isub, 1) := by decide +kernel
theorem dX6_readPart_60 : decode cX6_readPart 60 = .ok (.invokevirtual 245, 3) := by decide +kernel
theorem dX6_readPart_63 : decode cX6_readPart 63 = .ok (.aload_n 0, 1) := by decide +kernel
theorem dX6_readPart_64 : decode cX6_readPart 64 = .ok (.getfield 210, 3) := by decide +kernel
theorem dX6_readPart_67 : decode cX6_readPart 67 = .ok (.ifCond .ne 7, 3) := by decide +kernel
theorem dX6_readPart_70 : decode cX6_readPart 70 = .ok (.aload_n 0, 1) := by decide +kernel
theorem dX6_readPart_71 : decode cX6_readPart 71 = .ok (.invokevirtual 235, 3) := by decide +kernel
theorem dX6_readPart_74 : decode cX6_readPart 74 = .ok (.return_, 1) := by decide +kernel
theorem dX6_readPart_75 : decode cX6_readPart 75 = .ok (.aload_n 0, 1) := by decide +kernel
theorem dX6_readPart_76 : decode cX6_readPart 76 = .ok (.bipush 40, 2) := by decide +kernel
theorem dX6_readPart_78 : decode cX6_readPart 78 = .ok (.invokevirtual 252, 3) := by decide +kernel
theorem dX6_readPart_81 : decode cX6_readPart 81 = .ok (.aload_n 0, 1) := by decide +kernel
theorem dX6_readPart_82 : decode cX6_readPart 82 = .ok (.iload_n 1, 1) := by decide +kernel
theorem dX6_readPart_83 : decode cX6_readPart 83 = .ok (.iconst 1, 1) := by decide +kernel
theorem dX6_readPart_84 : decode cX6_readPart 84 = .ok (.iadd, 1) := by decide +kernel
theorem dX6_readPart_85 : decode cX6_readPart 85 = .ok (.invokevirtual 255, 3) := by decide +kernel
theorem dX6_readPart_88 : decode cX6_readPart 88 = .ok (.aload_n 0, 1) := by decide +kernel
theorem dX6_readPart_89 : decode cX6_readPart 89 = .ok (.bipush 41, 2) := by decide +kernel
theorem dX6_readPart_91 : decode cX6_readPart 91 = .ok (.invokevirtual 252, 3) := by decide +kernel
theorem dX6_readPart_94 : decode cX6_readPart 94 = .ok (.return_, 1) := by decide +kernel
theorem dX6_readProduct_0 : decode cX6_readProduct 0 = .ok (.aload_n 0, 1) := by decide +kernel
theorem dX6_readProduct_1 : decode cX6_readProduct 1 = .ok (.iload_n 1, 1) := by decide +kernel
theorem dX6_readProduct_2 : decode cX6_readProduct 2 = .ok (.invokevirtual 258, 3) := by decide +kernel
theorem dX6_readProduct_5 : decode cX6_readProduct 5 = .ok (.aload_n 0, 1) := by decide +kernel
theorem dX6_readProduct_6 : decode cX6_readProduct 6 = .ok (.bipush 42, 2) := by decide +kernel
theorem dX6_readProduct_8 : decode cX6_readProduct 8 = .ok (.invokevirtual 228, 3) := by decide +kernel
theorem dX6_readProduct_11 : decode cX6_readProduct 11 = .ok (.ifCond .ne 12, 3) := by decide +kernel
theorem dX6_readProduct_14 : decode cX6_readProduct 14 = .ok (.aload_n 0, 1) := by decide +kernel
theorem dX6_readProduct_15 : decode cX6_readProduct 15 = .ok (.bipush 47, 2) := by decide +kernel
theorem dX6_readProduct_17 : decode cX6_readProduct 17 = .ok (.invokevirtual 228, 3) := by decide +kernel
theorem dX6_readProduct_20 : decode cX6_readProduct 20 = .ok (.ifCond .eq 37, 3) := by decide +kernel
theorem dX6_readProduct_23 : decode cX6_readProduct 23 = .ok (.aload_n 0, 1) := by decide +kernel
theorem dX6_readProduct_24 : decode cX6_readProduct 24 = .ok (.bipush 42, 2) := by decide +kernel
theorem dX6_readProduct_26 : decode cX6_readProduct 26 = .ok (.invokevirtual 228, 3) := by decide +kernel
theorem dX6_readProduct_29 : decode cX6_readProduct 29 = .ok (.ifCond .eq 8, 3) := by decide +kernel
theorem dX6_readProduct_32 : decode cX6_readProduct 32 = .ok (.bipush (-22), 2) := by decide +kernel
theorem dX6_readProduct_34 : decode cX6_readProduct 34 = .ok (.goto 5, 3) := by decide +kernel
theorem dX6_readProduct_37 : decode cX6_readProduct 37 = .ok (.bipush (-23), 2) := by decide +kernel
theorem dX6_readProduct_39 : decode cX6_readProduct 39 = .ok (.istore_n 2, 1) := by decide +kernel
theorem dX6_readProduct_40 : decode cX6_readProduct 40 = .ok (.aload_n 0, 1) := by decide +kernel
theorem dX6_readProduct_41 : decode cX6_readProduct 41 = .ok (.invokevirtual 235, 3) := by decide +kernel
theorem dX6_readProduct_44 : decode cX6_readProduct 44 = .ok (.aload_n 0, 1) := by decide +kernel
theorem dX6_readProduct_45 : decode cX6_readProduct 45 = .ok (.iload_n 1, 1) := by decide +kernel
theorem dX6_readProduct_46 : decode cX6_readProduct 46 = .ok (.invokevirtual 258, 3) := by decide +kernel
theorem dX6_readProduct_49 : decode cX6_readProduct 49 = .ok (.aload_n 0, 1) := by decide +kernel
theorem dX6_readProduct_50 : decode cX6_readProduct 50 = .ok (.iload_n 2, 1) := by decide +kernel
theorem dX6_readProduct_51 : decode cX6_readProduct 51 = .ok (.invokevirtual 245, 3) := by decide +kernel
theorem dX6_readProduct_54 : decode cX6_readProduct 54 = .ok (.goto (-49), 3) := by decide +kernel
theorem dX6_readProduct_57 : decode cX6_readProduct 57 = .ok (.return_, 1) := by decide +kernel
theorem dX6_readSum_0 : decode cX6_readSum 0 = .ok (.aload_n 0, 1) := by decide +kernel
theorem dX6_readSum_1 : decode cX6_readSum 1 = .ok (.iload_n 1, 1) := by decide +kernel
theorem dX6_readSum_2 : decode cX6_readSum 2 = .ok (.invokevirtual 261, 3) := by decide +kernel
theorem dX6_readSum_5 : decode cX6_readSum 5 = .ok (.aload_n 0, 1) := by decide +kernel
theorem dX6_readSum_6 : decode cX6_readSum 6 = .ok (.bipush 43, 2) := by decide +kernel
theorem dX6_readSum_8 : decode cX6_readSum 8 = .ok (.invokevirtual 228, 3) := by decide +kernel
theorem dX6_readSum_11 : decode cX6_readSum 11 = .ok (.ifCond .ne 12, 3) := by decide +kernel
theorem dX6_readSum_14 : decode cX6_readSum 14 = .ok (.aload_n 0, 1) := by decide +kernel
theorem dX6_readSum_15 : decode cX6_readSum 15 = .ok (.bipush 45, 2) := by decide +kernel
theorem dX6_readSum_17 : decode cX6_readSum 17 = .ok (.invokevirtual 228, 3) := by decide +kernel
theorem dX6_readSum_20 : decode cX6_readSum 20 = .ok (.ifCond .eq 37, 3) := by decide +kernel
theorem dX6_readSum_23 : decode cX6_readSum 23 = .ok (.aload_n 0, 1) := by decide +kernel
theorem dX6_readSum_24 : decode cX6_readSum 24 = .ok (.bipush 43, 2) := by decide +kernel
theorem dX6_readSum_26 : decode cX6_readSum 26 = .ok (.invokevirtual 228, 3) := by decide +kernel
theorem dX6_readSum_29 : decode cX6_readSum 29 = .ok (.ifCond .eq 8, 3) := by decide +kernel
theorem dX6_readSum_32 : decode cX6_readSum 32 = .ok (.bipush (-20), 2) := by decide +kernel
theorem dX6_readSum_34 : decode cX6_readSum 34 = .ok (.goto 5, 3) := by decide +kernel
theorem dX6_readSum_37 : decode cX6_readSum 37 = .ok (.bipush (-21), 2) := by decide +kernel
theorem dX6_readSum_39 : decode cX6_readSum 39 = .ok (.istore_n 2, 1) := by decide +kernel
theorem dX6_readSum_40 : decode cX6_readSum 40 = .ok (.aload_n 0, 1) := by decide +kernel
theorem dX6_readSum_41 : decode cX6_readSum 41 = .ok (.invokevirtual 235, 3) := by decide +kernel
theorem dX6_readSum_44 : decode cX6_readSum 44 = .ok (.aload_n 0, 1) := by decide +kernel
theorem dX6_readSum_45 : decode cX6_readSum 45 = .ok (.iload_n 1, 1) := by decide +kernel
theorem dX6_readSum_46 : decode cX6_readSum 46 = .ok (.invokevirtual 261, 3) := by decide +kernel
theorem dX6_readSum_49 : decode cX6_readSum 49 = .ok (.aload_n 0, 1) := by decide +kernel
theorem dX6_readSum_50 : decode cX6_readSum 50 = .ok (.iload_n 2, 1) := by decide +kernel
theorem dX6_readSum_51 : decode cX6_readSum 51 = .ok (.invokevirtual 245, 3) := by decide +kernel
theorem dX6_readSum_54 : decode cX6_readSum 54 = .ok (.goto (-49), 3) := by decide +kernel
theorem dX6_readSum_57 : decode cX6_readSum 57 = .ok (.return_, 1) := by decide +kernel
theorem dX6_readNot_0 : decode cX6_readNot 0 = .ok (.iconst 0, 1) := by decide +kernel
theorem dX6_readNot_1 : decode cX6_readNot 1 = .ok (.istore_n 2, 1) := by decide +kernel
theorem dX6_readNot_2 : decode cX6_readNot 2 = .ok (.aload_n 0, 1) := by decide +kernel
theorem dX6_readNot_3 : decode cX6_readNot 3 = .ok (.ldc_w 264, 3) := by decide +kernel
theorem dX6_readNot_6 : decode cX6_readNot 6 = .ok (.invokevirtual 224, 3) := by decide +kernel
theorem dX6_readNot_9 : decode cX6_readNot 9 = .ok (.ifCond .eq 31, 3) := by decide +kernel
theorem dX6_readNot_12 : decode cX6_readNot 12 = .ok (.iload_n 2, 1) := by decide +kernel
theorem dX6_readNot_13 : decode cX6_readNot 13 = .ok (.bipush 6, 2) := by decide +kernel
theorem dX6_readNot_15 : decode cX6_readNot 15 = .ok (.if_icmp .ne 8, 3) := by decide +kernel
theorem dX6_readNot_18 : decode cX6_readNot 18 = .ok (.aload_n 0, 1) := by decide +kernel
theorem dX6_readNot_19 : decode cX6_readNot 19 = .ok (.iconst 2, 1) := by decide +kernel
theorem dX6_readNot_20 : decode cX6_readNot 20 = .ok (.invokevirtual 231, 3) := by decide +kernel
theorem dX6_readNot_23 : decode cX6_readNot 23 = .ok (.iinc 2 1, 3) := by decide +kernel
theorem dX6_readNot_26 : decode cX6_readNot 26 = .ok (.aload_n 0, 1) := by decide +kernel
theorem dX6_readNot_27 : decode cX6_readNot 27 = .ok (.getfield 210, 3) := by decide +kernel
theorem dX6_readNot_30 : decode cX6_readNot 30 = .ok (.ifCond .ne (-28), 3) := by decide +kernel
theorem dX6_readNot_33 : decode cX6_readNot 33 = .ok (.aload_n 0, 1) := by decide +kernel
theorem dX6_readNot_34 : decode cX6_readNot 34 = .ok (.invokevirtual 235, 3) := by decide +kernel
theorem dX6_readNot_37 : decode cX6_readNot 37 = .ok (.goto (-35), 3) := by decide +kernel
theorem dX6_readNot_40 : decode cX6_readNot 40 = .ok (.aload_n 0, 1) := by decide +kernel
theorem dX6_readNot_41 : decode cX6_readNot 41 = .ok (.iload_n 1, 1) := by decide +kernel
theorem dX6_readNot_42 : decode cX6_readNot 42 = .ok (.invokevirtual 266, 3) := by decide +kernel
theorem dX6_readNot_45 : decode cX6_readNot 45 = .ok (.aload_n 0, 1) := by decide +kernel
theorem dX6_readNot_46 : decode cX6_readNot 46 = .ok (.bipush 60, 2) := by decide +kernel
theorem dX6_readNot_48 : decode cX6_readNot 48 = .ok (.invokevirtual 228, 3) := by decide +kernel
theorem dX6_readNot_51 : decode cX6_readNot 51 = .ok (.ifCond .ne 12, 3) := by decide +kernel
theorem dX6_readNot_54 : decode cX6_readNot 54 = .ok (.aload_n 0, 1) := by decide +kernel
theorem dX6_readNot_55 : decode cX6_readNot 55 = .ok (.bipush 61, 2) := by decide +kernel
theorem dX6_readNot_57 : decode cX6_readNot 57 = .ok (.invokevirtual 228, 3) := by decide +kernel
theorem dX6_readNot_60 : decode cX6_readNot 60 = .ok (.ifCond .eq 34, 3) := by decide +kernel
theorem dX6_readNot_63 : decode cX6_readNot 63 = .ok (.aload_n 0, 1) := by decide +kernel
theorem dX6_readNot_64 : decode cX6_readNot 64 = .ok (.bipush 60, 2) := by decide +kernel
theorem dX6_readNot_66 : decode cX6_readNot 66 = .ok (.invokevirtual 228, 3) := by decide +kernel
theorem dX6_readNot_69 : decode cX6_readNot 69 = .ok (.ifCond .eq 8, 3) := by decide +kernel
theorem dX6_readNot_72 : decode cX6_readNot 72 = .ok (.bipush (-24), 2) := by decide +kernel
theorem dX6_readNot_74 : decode cX6_readNot 74 = .ok (.goto 5, 3) := by decide +kernel
theorem dX6_readNot_77 : decode cX6_readNot 77 = .ok (.bipush (-25), 2) := by decide +kernel
theorem dX6_readNot_79 : decode cX6_readNot 79 = .ok (.istore_n 3, 1) := by decide +kernel
theorem dX6_readNot_80 : decode cX6_readNot 80 = .ok (.aload_n 0, 1) := by decide +kernel
theorem dX6_readNot_81 : decode cX6_readNot 81 = .ok (.invokevirtual 235, 3) := by decide +kernel
theorem dX6_readNot_84 : decode cX6_readNot 84 = .ok (.aload_n 0, 1) := by decide +kernel
theorem dX6_readNot_85 : decode cX6_readNot 85 = .ok (.iload_n 1, 1) := by decide +kernel
theorem dX6_readNot_86 : decode cX6_readNot 86 = .ok (.invokevirtual 266, 3) := by decide +kernel
theorem dX6_readNot_89 : decode cX6_readNot 89 = .ok (.aload_n 0, 1) := by decide +kernel
theorem dX6_readNot_90 : decode cX6_readNot 90 = .ok (.iload_n 3, 1) := by decide +kernel
theorem dX6_readNot_91 : decode cX6_readNot 91 = .ok (.invokevirtual 245, 3) := by decide +kernel
theorem dX6_readNot_94 : decode cX6_readNot 94 = .ok (.iconst 0, 1) := by decide +kernel
theorem dX6_readNot_95 : decode cX6_readNot 95 = .ok (.istore_n 3, 1) := by decide +kernel
theorem dX6_readNot_96 : decode cX6_readNot 96 = .ok (.iload_n 3, 1) := by decide +kernel
theorem dX6_readNot_97 : decode cX6_readNot 97 = .ok (.iload_n 2, 1) := by decide +kernel
theorem dX6_readNot_98 : decode cX6_readNot 98 = .ok (.if_icmp .ge 15, 3) := by decide +kernel
theorem dX6_readNot_101 : decode cX6_readNot 101 = .ok (.aload_n 0, 1) := by decide +kernel
theorem dX6_readNot_102 : decode cX6_readNot 102 = .ok (.bipush (-28), 2) := by decide +kernel
theorem dX6_readNot_104 : decode cX6_readNot 104 = .ok (.invokevirtual 245, 3) := by decide +kernel
theorem dX6_readNot_107 : decode cX6_readNot 107 = .ok (.iinc 3 1, 3) := by decide +kernel
theorem dX6_readNot_110 : decode cX6_readNot 110 = .ok (.goto (-14), 3) := by decide +kernel
theorem dX6_readNot_113 : decode cX6_readNot 113 = .ok (.return_, 1) := by decide +kernel
theorem dX6_readAnd_0 : decode cX6_readAnd 0 = .ok (.aload_n 0, 1) := by decide +kernel
theorem dX6_readAnd_1 : decode cX6_readAnd 1 = .ok (.iload_n 1, 1) := by decide +kernel
theorem dX6_readAnd_2 : decode cX6_readAnd 2 = .ok (.invokevirtual 269, 3) := by decide +kernel
theorem dX6_readAnd_5 : decode cX6_readAnd 5 = .ok (.aload_n 0, 1) := by decide +kernel
theorem dX6_readAnd_6 : decode cX6_readAnd 6 = .ok (.ldc_w 272, 3) := by decide +kernel
theorem dX6_readAnd_9 : decode cX6_readAnd 9 = .ok (.invokevirtual 224, 3) := by decide +kernel
theorem dX6_readAnd_12 : decode cX6_readAnd 12 = .ok (.ifCond .eq 21, 3) := by decide +kernel
theorem dX6_readAnd_15 : decode cX6_readAnd 15 = .ok (.aload_n 0, 1) := by decide +kernel
theorem dX6_readAnd_16 : decode cX6_readAnd 16 = .ok (.invokevirtual 235, 3) := by decide +kernel
theorem dX6_readAnd_19 : decode cX6_readAnd 19 = .ok (.aload_n 0, 1) := by decide +kernel
theorem dX6_readAnd_20 : decode cX6_readAnd 20 = .ok (.iload_n 1, 1) := by decide +kernel
theorem dX6_readAnd_21 : decode cX6_readAnd 21 = .ok (.invokevirtual 269, 3) := by decide +kernel
theorem dX6_readAnd_24 : decode cX6_readAnd 24 = .ok (.aload_n 0, 1) := by decide +kernel
theorem dX6_readAnd_25 : decode cX6_readAnd 25 = .ok (.bipush (-26), 2) := by decide +kernel
theorem dX6_readAnd_27 : decode cX6_readAnd 27 = .ok (.invokevirtual 245, 3) := by decide +kernel
theorem dX6_readAnd_30 : decode cX6_readAnd 30 = .ok (.goto (-25), 3) := by decide +kernel
theorem dX6_readAnd_33 : decode cX6_readAnd 33 = .ok (.return_, 1) := by decide +kernel
theorem dX6_readExpression_0 : decode cX6_readExpression 0 = .ok (.aload_n 0, 1) := by decide +kernel
theorem dX6_readExpression_1 : decode cX6_readExpression 1 = .ok (.getfield 210, 3) := by decide +kernel
theorem dX6_readExpression_4 : decode cX6_readExpression 4 = .ok (.ifCond .eq 4, 3) := by decide +kernel
theorem dX6_readExpression_7 : decode cX6_readExpression 7 = .ok (.return_, 1) := by decide +kernel
theorem dX6_readExpression_8 : decode cX6_readExpression 8 = .ok (.aload_n 0, 1) := by decide +kernel
theorem dX6_readExpression_9 : decode cX6_readExpression 9 = .ok (.getfield 184, 3) := by decide +kernel
theorem dX6_readExpression_12 : decode cX6_readExpression 12 = .ok (.iconst 2, 1) := by decide +kernel
theorem dX6_readExpression_13 : decode cX6_readExpression 13 = .ok (.if_icmp .eq 20, 3) := by decide +kernel
theorem dX6_readExpression_16 : decode cX6_readExpression 16 = .ok (.aload_n 0, 1) := by decide +kernel
theorem dX6_readExpression_17 : decode cX6_readExpression 17 = .ok (.getfield 184, 3) := by decide +kernel
theorem dX6_readExpression_20 : decode cX6_readExpression 20 = .ok (.iconst 1, 1) := by decide +kernel
theorem dX6_readExpression_21 : decode cX6_readExpression 21 = .ok (.if_icmp .eq 12, 3) := by decide +kernel
theorem dX6_readExpression_24 : decode cX6_readExpression 24 = .ok (.aload_n 0, 1) := by decide +kernel
theorem dX6_readExpression_25 : decode cX6_readExpression 25 = .ok (.bipush 40, 2) := by decide +kernel
theorem dX6_readExpression_27 : decode cX6_readExpression 27 = .ok (.invokevirtual 228, 3) := by decide +kernel
theorem dX6_readExpression_30 : decode cX6_readExpression 30 = .ok (.ifCond .eq 7, 3) := by decide +kernel
theorem dX6_readExpression_33 : decode cX6_readExpression 33 = .ok (.iconst 1, 1) := by decide +kernel
theorem dX6_readExpression_34 : decode cX6_readExpression 34 = .ok (.goto 4, 3) := by decide +kernel
theorem dX6_readExpression_37 : decode cX6_readExpression 37 = .ok (.iconst 0, 1) := by decide +kernel
theorem dX6_readExpression_38 : decode cX6_readExpression 38 = .ok (.istore_n 2, 1) := by decide +kernel
theorem dX6_readExpression_39 : decode cX6_readExpression 39 = .ok (.iload_n 2, 1) := by decide +kernel
theorem dX6_readExpression_40 : decode cX6_readExpression 40 = .ok (.ifCond .ne 11, 3) := by decide +kernel
theorem dX6_readExpression_43 : decode cX6_readExpression 43 = .ok (.aload_n 0, 1) := by decide +kernel
theorem dX6_readExpression_44 : decode cX6_readExpression 44 = .ok (.iconst 1, 1) := by decide +kernel
theorem dX6_readExpression_45 : decode cX6_readExpression 45 = .ok (.invokevirtual 231, 3) := by decide +kernel
theorem dX6_readExpression_48 : decode cX6_readExpression 48 = .ok (.goto 14, 3) := by decide +kernel
theorem dX6_readExpression_51 : decode cX6_readExpression 51 = .ok (.iload_n 1, 1) := by decide +kernel
theorem dX6_readExpression_52 : decode cX6_readExpression 52 = .ok (.bipush 6, 2) := by decide +kernel
theorem dX6_readExpression_54 : decode cX6_readExpression 54 = .ok (.if_icmp .ne 8, 3) := by decide +kernel
theorem dX6_readExpression_57 : decode cX6_readExpression 57 = .ok (.aload_n 0, 1) := by decide +kernel
theorem dX6_readExpression_58 : decode cX6_readExpression 58 = .ok (.iconst 2, 1) := by decide +kernel
theorem dX6_readExpression_59 : decode cX6_readExpression 59 = .ok (.invokevirtual 231, 3) := by decide +kernel
theorem dX6_readExpression_62 : decode cX6_readExpression 62 = .ok (.aload_n 0, 1) := by decide +kernel
theorem dX6_readExpression_63 : decode cX6_readExpression 63 = .ok (.iload_n 1, 1) := by decide +kernel
theorem dX6_readExpression_64 : decode cX6_readExpression 64 = .ok (.invokevirtual 274, 3) := by decide +kernel
theorem dX6_readExpression_67 : decode cX6_readExpression 67 = .ok (.aload_n 0, 1) := by decide +kernel
theorem dX6_readExpression_68 : decode cX6_readExpression 68 = .ok (.ldc_w 277, 3) := by decide +kernel
theorem dX6_readExpression_71 : decode cX6_readExpression 71 = .ok (.invokevirtual 224, 3) := by decide +kernel
theorem dX6_readExpression_74 : decode cX6_readExpression 74 = .ok (.ifCond .eq 21, 3) := by decide +kernel
theorem dX6_readExpression_77 : decode cX6_readExpression 77 = .ok (.aload_n 0, 1) := by decide +kernel
theorem dX6_readExpression_78 : decode cX6_readExpression 78 = .ok (.invokevirtual 235, 3) := by decide +kernel
theorem dX6_readExpression_81 : decode cX6_readExpression 81 = .ok (.aload_n 0, 1) := by decide +kernel
theorem dX6_readExpression_82 : decode cX6_readExpression 82 = .ok (.iload_n 1, 1) := by decide +kernel
theorem dX6_readExpression_83 : decode cX6_readExpression 83 = .ok (.invokevirtual 274, 3) := by decide +kernel
theorem dX6_readExpression_86 : decode cX6_readExpression 86 = .ok (.aload_n 0, 1) := by decide +kernel
theorem dX6_readExpression_87 : decode cX6_readExpression 87 = .ok (.bipush (-27), 2) := by decide +kernel
theorem dX6_readExpression_89 : decode cX6_readExpression 89 = .ok (.invokevirtual 245, 3) := by decide +kernel
theorem dX6_readExpression_92 : decode cX6_readExpression 92 = .ok (.goto (-25), 3) := by decide +kernel
theorem dX6_readExpression_95 : decode cX6_readExpression 95 = .ok (.return_, 1) := by decide +kernel
theorem dX6_another_0 : decode cX6_another 0 = .ok (.aload_n 0, 1) := by decide +kernel
theorem dX6_another_1 : decode cX6_another 1 = .ok (.getfield 42, 3) := by decide +kernel
theorem dX6_another_4 : decode cX6_another 4 = .ok (.iconst 5, 1) := by decide +kernel
theorem dX6_another_5 : decode cX6_another 5 = .ok (.iload_n 1, 1) := by decide +kernel
theorem dX6_another_6 : decode cX6_another 6 = .ok (.iadd, 1) := by decide +kernel
theorem dX6_another_7 : decode cX6_another 7 = .ok (.iaload, 1) := by decide +kernel
theorem dX6_another_8 : decode cX6_another 8 = .ok (.iload_n 2, 1) := by decide +kernel
theorem dX6_another_9 : decode cX6_another 9 = .ok (.if_icmp .ne 8, 3) := by decide +kernel
theorem dX6_another_12 : decode cX6_another 12 = .ok (.aload_n 0, 1) := by decide +kernel
theorem dX6_another_13 : decode cX6_another 13 = .ok (.iconst 2, 1) := by decide +kernel
theorem dX6_another_14 : decode cX6_another 14 = .ok (.invokevirtual 231, 3) := by decide +kernel
theorem dX6_another_17 : decode cX6_another 17 = .ok (.aload_n 0, 1) := by decide +kernel
theorem dX6_another_18 : decode cX6_another 18 = .ok (.getfield 210, 3) := by decide +kernel
theorem dX6_another_21 : decode cX6_another 21 = .ok (.ifCond .eq 5, 3) := by decide +kernel
theorem dX6_another_24 : decode cX6_another 24 = .ok (.iconst 0, 1) := by decide +kernel
theorem dX6_another_25 : decode cX6_another 25 = .ok (.ireturn, 1) := by decide +kernel
theorem dX6_another_26 : decode cX6_another 26 = .ok (.aload_n 0, 1) := by decide +kernel
theorem dX6_another_27 : decode cX6_another 27 = .ok (.invokevirtual 235, 3) := by decide +kernel
theorem dX6_another_30 : decode cX6_another 30 = .ok (.iconst 1, 1) := by decide +kernel
theorem dX6_another_31 : decode cX6_another 31 = .ok (.ireturn, 1) := by decide +kernel
theorem dX6_sayLeaf_0 : decode cX6_sayLeaf 0 = .ok (.aload_n 0, 1) := by decide +kernel
theorem dX6_sayLeaf_1 : decode cX6_sayLeaf 1 = .ok (.iconst 0, 1) := by decide +kernel
theorem dX6_sayLeaf_2 : decode cX6_sayLeaf 2 = .ok (.bipush 8, 2) := by decide +kernel
theorem dX6_sayLeaf_4 : decode cX6_sayLeaf 4 = .ok (.invokevirtual 279, 3) := by decide +kernel
theorem dX6_sayLeaf_7 : decode cX6_sayLeaf 7 = .ok (.ifCond .ne 4, 3) := by decide +kernel
theorem dX6_sayLeaf_10 : decode cX6_sayLeaf 10 = .ok (.return_, 1) := by decide +kernel
theorem dX6_sayLeaf_11 : decode cX6_sayLeaf 11 = .ok (.bipush 8, 2) := by decide +kernel
theorem dX6_sayLeaf_13 : decode cX6_sayLeaf 13 = .ok (.aload_n 0, 1) := by decide +kernel
theorem dX6_sayLeaf_14 : decode cX6_sayLeaf 14 = .ok (.getfield 42, 3) := by decide +kernel
theorem dX6_sayLeaf_17 : decode cX6_sayLeaf 17 = .ok (.iconst 5, 1) := by decide +kernel
theorem dX6_sayLeaf_18 : decode cX6_sayLeaf 18 = .ok (.iaload, 1) := by decide +kernel
theorem dX6_sayLeaf_19 : decode cX6_sayLeaf 19 = .ok (.iadd, 1) := by decide +kernel
theorem dX6_sayLeaf_20 : decode cX6_sayLeaf 20 = .ok (.istore_n 1, 1) := by decide +kernel
theorem dX6_sayLeaf_21 : decode cX6_sayLeaf 21 = .ok (.aload_n 0, 1) := by decide +kernel
theorem dX6_sayLeaf_22 : decode cX6_sayLeaf 22 = .ok (.getfield 46, 3) := by decide +kernel
theorem dX6_sayLeaf_25 : decode cX6_sayLeaf 25 = .ok (.iload_n 1, 1) := by decide +kernel
theorem dX6_sayLeaf_26 : decode cX6_sayLeaf 26 = .ok (.aload_n 0, 1) := by decide +kernel
theorem dX6_sayLeaf_27 : decode cX6_sayLeaf 27 = .ok (.iconst 0, 1) := by decide +kernel
theorem dX6_sayLeaf_28 : decode cX6_sayLeaf 28 = .ok (.bipush 11, 2) := by decide +kernel
theorem dX6_sayLeaf_30 : decode cX6_sayLeaf 30 = .ok (.invokevirtual 242, 3) := by decide +kernel
theorem dX6_sayLeaf_33 : decode cX6_sayLeaf 33 = .ok (.iastore, 1) := by decide +kernel
theorem dX6_sayLeaf_34 : decode cX6_sayLeaf 34 = .ok (.aload_n 0, 1) := by decide +kernel
theorem dX6_sayLeaf_35 : decode cX6_sayLeaf 35 = .ok (.getfield 49, 3) := by decide +kernel
theorem dX6_sayLeaf_38 : decode cX6_sayLeaf 38 = .ok (.iload_n 1, 1) := by decide +kernel
theorem dX6_sayLeaf_39 : decode cX6_sayLeaf 39 = .ok (.aload_n 0, 1) := by decide +kernel
theorem dX6_sayLeaf_40 : decode cX6_sayLeaf 40 = .ok (.iconst 1, 1) := by decide +kernel
theorem dX6_sayLeaf_41 : decode cX6_sayLeaf 41 = .ok (.bipush 9, 2) := by decide +kernel
theorem dX6_sayLeaf_43 : decode cX6_sayLeaf 43 = .ok (.invokevirtual 242, 3) := by decide +kernel
theorem dX6_sayLeaf_46 : decode cX6_sayLeaf 46 = .ok (.iastore, 1) := by decide +kernel
theorem dX6_sayLeaf_47 : decode cX6_sayLeaf 47 = .ok (.aload_n 0, 1) := by decide +kernel
theorem dX6_sayLeaf_48 : decode cX6_sayLeaf 48 = .ok (.getfield 42, 3) := by decide +kernel
theorem dX6_sayLeaf_51 : decode cX6_sayLeaf 51 = .ok (.iconst 5, 1) := by decide +kernel
theorem dX6_sayLeaf_52 : decode cX6_sayLeaf 52 = .ok (.dup2, 1) := by decide +kernel
theorem dX6_sayLeaf_53 : decode cX6_sayLeaf 53 = .ok (.iaload, 1) := by decide +kernel
theorem dX6_sayLeaf_54 : decode cX6_sayLeaf 54 = .ok (.iconst 1, 1) := by decide +kernel
theorem dX6_sayLeaf_55 : decode cX6_sayLeaf 55 = .ok (.iadd, 1) := by decide +kernel
theorem dX6_sayLeaf_56 : decode cX6_sayLeaf 56 = .ok (.iastore, 1) := by decide +kernel
theorem dX6_sayLeaf_57 : decode cX6_sayLeaf 57 = .ok (.return_, 1) := by decide +kernel
theorem dX6_sayJudge_0 : decode cX6_sayJudge 0 = .ok (.aload_n 0, 1) := by decide +kernel
theorem dX6_sayJudge_1 : decode cX6_sayJudge 1 = .ok (.iconst 1, 1) := by decide +kernel
theorem dX6_sayJudge_2 : decode cX6_sayJudge 2 = .ok (.bipush 8, 2) := by decide +kernel
theorem dX6_sayJudge_4 : decode cX6_sayJudge 4 = .ok (.invokevirtual 279, 3) := by decide +kernel
theorem dX6_sayJudge_7 : decode cX6_sayJudge 7 = .ok (.ifCond .ne 4, 3) := by decide +kernel
theorem dX6_sayJudge_10 : decode cX6_sayJudge 10 = .ok (.return_, 1) := by decide +kernel
theorem dX6_sayJudge_11 : decode cX6_sayJudge 11 = .ok (.bipush 8, 2) := by decide +kernel
theorem dX6_sayJudge_13 : decode cX6_sayJudge 13 = .ok (.aload_n 0, 1) := by decide +kernel
theorem dX6_sayJudge_14 : decode cX6_sayJudge 14 = .ok (.getfield 42, 3) := by decide +kernel
theorem dX6_sayJudge_17 : decode cX6_sayJudge 17 = .ok (.bipush 6, 2) := by decide +kernel
theorem dX6_sayJudge_19 : decode cX6_sayJudge 19 = .ok (.iaload, 1) := by decide +kernel
theorem dX6_sayJudge_20 : decode cX6_sayJudge 20 = .ok (.iadd, 1) := by decide +kernel
theorem dX6_sayJudge_21 : decode cX6_sayJudge 21 = .ok (.istore_n 2, 1) := by decide +kernel
theorem dX6_sayJudge_22 : decode cX6_sayJudge 22 = .ok (.aload_n 0, 1) := by decide +kernel
theorem dX6_sayJudge_23 : decode cX6_sayJudge 23 = .ok (.getfield 52, 3) := by decide +kernel
theorem dX6_sayJudge_26 : decode cX6_sayJudge 26 = .ok (.iload_n 2, 1) := by decide +kernel
theorem dX6_sayJudge_27 : decode cX6_sayJudge 27 = .ok (.iload_n 1, 1) := by decide +kernel
theorem dX6_sayJudge_28 : decode cX6_sayJudge 28 = .ok (.iastore, 1) := by decide +kernel
theorem dX6_sayJudge_29 : decode cX6_sayJudge 29 = .ok (.aload_n 0, 1) := by decide +kernel
theorem dX6_sayJudge_30 : decode cX6_sayJudge 30 = .ok (.getfield 55, 3) := by decide +kernel
theorem dX6_sayJudge_33 : decode cX6_sayJudge 33 = .ok (.iload_n 2, 1) := by decide +kernel
theorem dX6_sayJudge_34 : decode cX6_sayJudge 34 = .ok (.aload_n 0, 1) := by decide +kernel
theorem dX6_sayJudge_35 : decode cX6_sayJudge 35 = .ok (.iconst 0, 1) := by decide +kernel
theorem dX6_sayJudge_36 : decode cX6_sayJudge 36 = .ok (.bipush 30, 2) := by decide +kernel
theorem dX6_sayJudge_38 : decode cX6_sayJudge 38 = .ok (.invokevirtual 242, 3) := by decide +kernel
theorem dX6_sayJudge_41 : decode cX6_sayJudge 41 = .ok (.iastore, 1) := by decide +kernel
theorem dX6_sayJudge_42 : decode cX6_sayJudge 42 = .ok (.aload_n 0, 1) := by decide +kernel
theorem dX6_sayJudge_43 : decode cX6_sayJudge 43 = .ok (.getfield 58, 3) := by decide +kernel
theorem dX6_sayJudge_46 : decode cX6_sayJudge 46 = .ok (.iload_n 2, 1) := by decide +kernel
theorem dX6_sayJudge_47 : decode cX6_sayJudge 47 = .ok (.aload_n 0, 1) := by decide +kernel
theorem dX6_sayJudge_48 : decode cX6_sayJudge 48 = .ok (.iconst 0, 1) := by decide +kernel
theorem dX6_sayJudge_49 : decode cX6_sayJudge 49 = .ok (.bipush 12, 2) := by decide +kernel
theorem dX6_sayJudge_51 : decode cX6_sayJudge 51 = .ok (.invokevirtual 242, 3) := by decide +kernel
theorem dX6_sayJudge_54 : decode cX6_sayJudge 54 = .ok (.iastore, 1) := by decide +kernel
theorem dX6_sayJudge_55 : decode cX6_sayJudge 55 = .ok (.aload_n 0, 1) := by decide +kernel
theorem dX6_sayJudge_56 : decode cX6_sayJudge 56 = .ok (.getfield 61, 3) := by decide +kernel
theorem dX6_sayJudge_59 : decode cX6_sayJudge 59 = .ok (.iload_n 2, 1) := by decide +kernel
theorem dX6_sayJudge_60 : decode cX6_sayJudge 60 = .ok (.aload_n 0, 1) := by decide +kernel
theorem dX6_sayJudge_61 : decode cX6_sayJudge 61 = .ok (.iconst 0, 1) := by decide +kernel
theorem dX6_sayJudge_62 : decode cX6_sayJudge 62 = .ok (.iconst 4, 1) := by decide +kernel
theorem dX6_sayJudge_63 : decode cX6_sayJudge 63 = .ok (.invokevirtual 242, 3) := by decide +kernel
theorem dX6_sayJudge_66 : decode cX6_sayJudge 66 = .ok (.iastore, 1) := by decide +kernel
theorem dX6_sayJudge_67 : decode cX6_sayJudge 67 = .ok (.aload_n 0, 1) := by decide +kernel
theorem dX6_sayJudge_68 : decode cX6_sayJudge 68 = .ok (.getfield 42, 3) := by decide +kernel
theorem dX6_sayJudge_71 : decode cX6_sayJudge 71 = .ok (.bipush 6, 2) := by decide +kernel
theorem dX6_sayJudge_73 : decode cX6_sayJudge 73 = .ok (.dup2, 1) := by decide +kernel
theorem dX6_sayJudge_74 : decode cX6_sayJudge 74 = .ok (.iaload, 1) := by decide +kernel
theorem dX6_sayJudge_75 : decode cX6_sayJudge 75 = .ok (.iconst 1, 1) := by decide +kernel
theorem dX6_sayJudge_76 : decode cX6_sayJudge 76 = .ok (.iadd, 1) := by decide +kernel
theorem dX6_sayJudge_77 : decode cX6_sayJudge 77 = .ok (.iastore, 1) := by decide +kernel
theorem dX6_sayJudge_78 : decode cX6_sayJudge 78 = .ok (.return_, 1) := by decide +kernel
theorem dX6_sayOnce_0 : decode cX6_sayOnce 0 = .ok (.aload_n 0, 1) := by decide +kernel
theorem dX6_sayOnce_1 : decode cX6_sayOnce 1 = .ok (.invokevirtual 235, 3) := by decide +kernel
theorem dX6_sayOnce_4 : decode cX6_sayOnce 4 = .ok (.iload_n 1, 1) := by decide +kernel
theorem dX6_sayOnce_5 : decode cX6_sayOnce 5 = .ok (.iconst 1, 1) := by decide +kernel
theorem dX6_sayOnce_6 : decode cX6_sayOnce 6 = .ok (.if_icmp .ne 18, 3) := by decide +kernel
theorem dX6_sayOnce_9 : decode cX6_sayOnce 9 = .ok (.aload_n 0, 1) := by decide +kernel
theorem dX6_sayOnce_10 : decode cX6_sayOnce 10 = .ok (.getfield 42, 3) := by decide +kernel
theorem dX6_sayOnce_13 : decode cX6_sayOnce 13 = .ok (.bipush 7, 2) := by decide +kernel
theorem dX6_sayOnce_15 : decode cX6_sayOnce 15 = .ok (.aload_n 0, 1) := by decide +kernel
theorem dX6_sayOnce_16 : decode cX6_sayOnce 16 = .ok (.iconst 0, 1) := by decide +kernel
theorem dX6_sayOnce_17 : decode cX6_sayOnce 17 = .ok (.bipush 99, 2) := by decide +kernel
theorem dX6_sayOnce_19 : decode cX6_sayOnce 19 = .ok (.invokevirtual 242, 3) := by decide +kernel
theorem dX6_sayOnce_22 : decode cX6_sayOnce 22 = .ok (.iastore, 1) := by decide +kernel
theorem dX6_sayOnce_23 : decode cX6_sayOnce 23 = .ok (.return_, 1) := by decide +kernel
theorem dX6_sayOnce_24 : decode cX6_sayOnce 24 = .ok (.aload_n 0, 1) := by decide +kernel
theorem dX6_sayOnce_25 : decode cX6_sayOnce 25 = .ok (.iload_n 1, 1) := by decide +kernel
theorem dX6_sayOnce_26 : decode cX6_sayOnce 26 = .ok (.iconst 4, 1) := by decide +kernel
theorem dX6_sayOnce_27 : decode cX6_sayOnce 27 = .ok (.if_icmp .ne 7, 3) := by decide +kernel
theorem dX6_sayOnce_30 : decode cX6_sayOnce 30 = .ok (.iconst 1, 1) := by decide +kernel
theorem dX6_sayOnce_31 : decode cX6_sayOnce 31 = .ok (.goto 4, 3) := by decide +kernel
theorem dX6_sayOnce_34 : decode cX6_sayOnce 34 = .ok (.iconst 0, 1) := by decide +kernel
theorem dX6_sayOnce_35 : decode cX6_sayOnce 35 = .ok (.putfield 238, 3) := by decide +kernel
theorem dX6_sayOnce_38 : decode cX6_sayOnce 38 = .ok (.aload_n 0, 1) := by decide +kernel
theorem dX6_sayOnce_39 : decode cX6_sayOnce 39 = .ok (.aload_n 0, 1) := by decide +kernel
theorem dX6_sayOnce_40 : decode cX6_sayOnce 40 = .ok (.getfield 238, 3) := by decide +kernel
theorem dX6_sayOnce_43 : decode cX6_sayOnce 43 = .ok (.ifCond .eq 10, 3) := by decide +kernel
theorem dX6_sayOnce_46 : decode cX6_sayOnce 46 = .ok (.aload_n 0, 1) := by decide +kernel
theorem dX6_sayOnce_47 : decode cX6_sayOnce 47 = .ok (.getfield 36, 3) := by decide +kernel
theorem dX6_sayOnce_50 : decode cX6_sayOnce 50 = .ok (.goto 7, 3) := by decide +kernel
theorem dX6_sayOnce_53 : decode cX6_sayOnce 53 = .ok (.aload_n 0, 1) := by decide +kernel
theorem dX6_sayOnce_54 : decode cX6_sayOnce 54 = .ok (.getfield 33, 3) := by decide +kernel
theorem dX6_sayOnce_57 : decode cX6_sayOnce 57 = .ok (.putfield 39, 3) := by decide +kernel
theorem dX6_sayOnce_60 : decode cX6_sayOnce 60 = .ok (.aload_n 0, 1) := by decide +kernel
theorem dX6_sayOnce_61 : decode cX6_sayOnce 61 = .ok (.iconst 0, 1) := by decide +kernel
theorem dX6_sayOnce_62 : decode cX6_sayOnce 62 = .ok (.invokevirtual 255, 3) := by decide +kernel
theorem dX6_sayOnce_65 : decode cX6_sayOnce 65 = .ok (.return_, 1) := by decide +kernel
theorem dX6_readLine_0 : decode cX6_readLine 0 = .ok (.aload_n 0, 1) := by decide +kernel
theorem dX6_readLine_1 : decode cX6_readLine 1 = .ok (.aload_n 0, 1) := by decide +kernel
theorem dX6_readLine_2 : decode cX6_readLine 2 = .ok (.getfield 15, 3) := by decide +kernel
theorem dX6_readLine_5 : decode cX6_readLine 5 = .ok (.invokevirtual 248, 3) := by decide +kernel
theorem dX6_readLine_8 : decode cX6_readLine 8 = .ok (.istore_n 2, 1) := by decide +kernel
theorem dX6_readLine_9 : decode cX6_readLine 9 = .ok (.aload_n 0, 1) := by decide +kernel
theorem dX6_readLine_10 : decode cX6_readLine 10 = .ok (.ldc_w 283, 3) := by decide +kernel
theorem dX6_readLine_13 : decode cX6_readLine 13 = .ok (.invokevirtual 224, 3) := by decide +kernel
theorem dX6_readLine_16 : decode cX6_readLine 16 = .ok (.ifCond .eq 7, 3) := by decide +kernel
theorem dX6_readLine_19 : decode cX6_readLine 19 = .ok (.iconst 1, 1) := by decide +kernel
theorem dX6_readLine_20 : decode cX6_readLine 20 = .ok (.goto 32, 3) := by decide +kernel
theorem dX6_readLine_23 : decode cX6_readLine 23 = .ok (.aload_n 0, 1) := by decide +kernel
theorem dX6_readLine_24 : decode cX6_readLine 24 = .ok (.ldc_w 285, 3) := by decide +kernel
theorem dX6_readLine_27 : decode cX6_readLine 27 = .ok (.invokevirtual 224, 3) := by decide +kernel
theorem dX6_readLine_30 : decode cX6_readLine 30 = .ok (.ifCond .eq 7, 3) := by decide +kernel
theorem dX6_readLine_33 : decode cX6_readLine 33 = .ok (.iconst 2, 1) := by decide +kernel
theorem dX6_readLine_34 : decode cX6_readLine 34 = .ok (.goto 18, 3) := by decide +kernel
theorem dX6_readLine_37 : decode cX6_readLine 37 = .ok (.aload_n 0, 1) := by decide +kernel
theorem dX6_readLine_38 : decode cX6_readLine 38 = .ok (.ldc_w 287, 3) := by decide +kernel
theorem dX6_readLine_41 : decode cX6_readLine 41 = .ok (.invokevirtual 224, 3) := by decide +kernel
theorem dX6_readLine_44 : decode cX6_readLine 44 = .ok (.ifCond .eq 7, 3) := by decide +kernel
theorem dX6_readLine_47 : decode cX6_readLine 47 = .ok (.iconst 4, 1) := by decide +kernel
theorem dX6_readLine_48 : decode cX6_readLine 48 = .ok (.goto 4, 3) := by decide +kernel
theorem dX6_readLine_51 : decode cX6_readLine 51 = .ok (.iconst 0, 1) := by decide +kernel
theorem dX6_readLine_52 : decode cX6_readLine 52 = .ok (.istore_n 3, 1) := by decide +kernel
theorem dX6_readLine_53 : decode cX6_readLine 53 = .ok (.iload_n 3, 1) := by decide +kernel
theorem dX6_readLine_54 : decode cX6_readLine 54 = .ok (.iload_n 1, 1) := by decide +kernel
theorem dX6_readLine_55 : decode cX6_readLine 55 = .ok (.iand, 1) := by decide +kernel
theorem dX6_readLine_56 : decode cX6_readLine 56 = .ok (.ifCond .eq 8, 3) := by decide +kernel
theorem dX6_readLine_59 : decode cX6_readLine 59 = .ok (.aload_n 0, 1) := by decide +kernel
theorem dX6_readLine_60 : decode cX6_readLine 60 = .ok (.iconst 5, 1) := by decide +kernel
theorem dX6_readLine_61 : decode cX6_readLine 61 = .ok (.invokevirtual 231, 3) := by decide +kernel
theorem dX6_readLine_64 : decode cX6_readLine 64 = .ok (.iload_n 3, 1) := by decide +kernel
theorem dX6_readLine_65 : decode cX6_readLine 65 = .ok (.ifCond .le 18, 3) := by decide +kernel
theorem dX6_readLine_68 : decode cX6_readLine 68 = .ok (.aload_n 0, 1) := by decide +kernel
theorem dX6_readLine_69 : decode cX6_readLine 69 = .ok (.getfield 210, 3) := by decide +kernel
theorem dX6_readLine_72 : decode cX6_readLine 72 = .ok (.ifCond .ne 11, 3) := by decide +kernel
theorem dX6_readLine_75 : decode cX6_readLine 75 = .ok (.aload_n 0, 1) := by decide +kernel
theorem dX6_readLine_76 : decode cX6_readLine 76 = .ok (.iload_n 3, 1) := by decide +kernel
theorem dX6_readLine_77 : decode cX6_readLine 77 = .ok (.invokevirtual 289, 3) := by decide +kernel
theorem dX6_readLine_80 : decode cX6_readLine 80 = .ok (.goto 38, 3) := by decide +kernel
theorem dX6_readLine_83 : decode cX6_readLine 83 = .ok (.iload_n 2, 1) := by decide +kernel
theorem dX6_readLine_84 : decode cX6_readLine 84 = .ok (.iconst (-1), 1) := by decide +kernel
theorem dX6_readLine_85 : decode cX6_readLine 85 = .ok (.if_icmp .eq 11, 3) := by decide +kernel
theorem dX6_readLine_88 : decode cX6_readLine 88 = .ok (.aload_n 0, 1) := by decide +kernel
theorem dX6_readLine_89 : decode cX6_readLine 89 = .ok (.iload_n 2, 1) := by decide +kernel
theorem dX6_readLine_90 : decode cX6_readLine 90 = .ok (.invokevirtual 292, 3) := by decide +kernel
theorem dX6_readLine_93 : decode cX6_readLine 93 = .ok (.goto 25, 3) := by decide +kernel
theorem dX6_readLine_96 : decode cX6_readLine 96 = .ok (.aload_n 0, 1) := by decide +kernel
theorem dX6_readLine_97 : decode cX6_readLine 97 = .ok (.ldc_w 295, 3) := by decide +kernel
theorem dX6_readLine_100 : decode cX6_readLine 100 = .ok (.invokevirtual 224, 3) := by decide +kernel
theorem dX6_readLine_103 : decode cX6_readLine 103 = .ok (.ifCond .eq 10, 3) := by decide +kernel
theorem dX6_readLine_106 : decode cX6_readLine 106 = .ok (.aload_n 0, 1) := by decide +kernel
theorem dX6_readLine_107 : decode cX6_readLine 107 = .ok (.invokevirtual 297, 3) := by decide +kernel
theorem dX6_readLine_110 : decode cX6_readLine 110 = .ok (.goto 8, 3) := by decide +kernel
theorem dX6_readLine_113 : decode cX6_readLine 113 = .ok (.aload_n 0, 1) := by decide +kernel
theorem dX6_readLine_114 : decode cX6_readLine 114 = .ok (.iconst 1, 1) := by decide +kernel
theorem dX6_readLine_115 : decode cX6_readLine 115 = .ok (.invokevirtual 231, 3) := by decide +kernel
theorem dX6_readLine_118 : decode cX6_readLine 118 = .ok (.aload_n 0, 1) := by decide +kernel
theorem dX6_readLine_119 : decode cX6_readLine 119 = .ok (.bipush 59, 2) := by decide +kernel
theorem dX6_readLine_121 : decode cX6_readLine 121 = .ok (.invokevirtual 252, 3) := by decide +kernel
theorem dX6_readLine_124 : decode cX6_readLine 124 = .ok (.iload_n 1, 1) := by decide +kernel
theorem dX6_readLine_125 : decode cX6_readLine 125 = .ok (.iload_n 3, 1) := by decide +kernel
theorem dX6_readLine_126 : decode cX6_readLine 126 = .ok (.ior, 1) := by decide +kernel
theorem dX6_readLine_127 : decode cX6_readLine 127 = .ok (.ireturn, 1) := by decide +kernel
theorem dX6_court_0 : decode cX6_court 0 = .ok (.aload_n 0, 1) := by decide +kernel
theorem dX6_court_1 : decode cX6_court 1 = .ok (.iconst 0, 1) := by decide +kernel
theorem dX6_court_2 : decode cX6_court 2 = .ok (.putfield 157, 3) := by decide +kernel
theorem dX6_court_5 : decode cX6_court 5 = .ok (.iload_n 1, 1) := by decide +kernel
theorem dX6_court_6 : decode cX6_court 6 = .ok (.ifCond .lt 11, 3) := by decide +kernel
theorem dX6_court_9 : decode cX6_court 9 = .ok (.iload_n 1, 1) := by decide +kernel
theorem dX6_court_10 : decode cX6_court 10 = .ok (.aload_n 0, 1) := by decide +kernel
theorem dX6_court_11 : decode cX6_court 11 = .ok (.getfield 168, 3) := by decide +kernel
theorem dX6_court_14 : decode cX6_court 14 = .ok (.if_icmp .le 9, 3) := by decide +kernel
theorem dX6_court_17 : decode cX6_court 17 = .ok (.aload_n 0, 1) := by decide +kernel
theorem dX6_court_18 : decode cX6_court 18 = .ok (.iconst 1, 1) := by decide +kernel
theorem dX6_court_19 : decode cX6_court 19 = .ok (.invokevirtual 300, 3) := by decide +kernel
theorem dX6_court_22 : decode cX6_court 22 = .ok (.ireturn, 1) := by decide +kernel
theorem dX6_court_23 : decode cX6_court 23 = .ok (.aload_n 0, 1) := by decide +kernel
theorem dX6_court_24 : decode cX6_court 24 = .ok (.iconst 0, 1) := by decide +kernel
theorem dX6_court_25 : decode cX6_court 25 = .ok (.putfield 168, 3) := by decide +kernel
theorem dX6_court_28 : decode cX6_court 28 = .ok (.aload_n 0, 1) := by decide +kernel
theorem dX6_court_29 : decode cX6_court 29 = .ok (.iload_n 1, 1) := by decide +kernel
theorem dX6_court_30 : decode cX6_court 30 = .ok (.putfield 171, 3) := by decide +kernel
theorem dX6_court_33 : decode cX6_court 33 = .ok (.aload_n 0, 1) := by decide +kernel
theorem dX6_court_34 : decode cX6_court 34 = .ok (.iconst 0, 1) := by decide +kernel
theorem dX6_court_35 : decode cX6_court 35 = .ok (.putfield 174, 3) := by decide +kernel
theorem dX6_court_38 : decode cX6_court 38 = .ok (.aload_n 0, 1) := by decide +kernel
theorem dX6_court_39 : decode cX6_court 39 = .ok (.iconst 0, 1) := by decide +kernel
theorem dX6_court_40 : decode cX6_court 40 = .ok (.putfield 210, 3) := by decide +kernel
theorem dX6_court_43 : decode cX6_court 43 = .ok (.aload_n 0, 1) := by decide +kernel
theorem dX6_court_44 : decode cX6_court 44 = .ok (.iconst (-1), 1) := by decide +kernel
theorem dX6_court_45 : decode cX6_court 45 = .ok (.putfield 78, 3) := by decide +kernel
theorem dX6_court_48 : decode cX6_court 48 = .ok (.iconst 0, 1) := by decide +kernel
theorem dX6_court_49 : decode cX6_court 49 = .ok (.istore_n 2, 1) := by decide +kernel
theorem dX6_court_50 : decode cX6_court 50 = .ok (.iload_n 2, 1) := by decide +kernel
theorem dX6_court_51 : decode cX6_court 51 = .ok (.iconst 5, 1) := by decide +kernel
theorem dX6_court_52 : decode cX6_court 52 = .ok (.if_icmp .ge 28, 3) := by decide +kernel
theorem dX6_court_55 : decode cX6_court 55 = .ok (.aload_n 0, 1) := by decide +kernel
theorem dX6_court_56 : decode cX6_court 56 = .ok (.getfield 42, 3) := by decide +kernel
theorem dX6_court_59 : decode cX6_court 59 = .ok (.iconst 5, 1) := by decide +kernel
theorem dX6_court_60 : decode cX6_court 60 = .ok (.iload_n 2, 1) := by decide +kernel
theorem dX6_court_61 : decode cX6_court 61 = .ok (.iadd, 1) := by decide +kernel
theorem dX6_court_62 : decode cX6_court 62 = .ok (.iload_n 2, 1) := by decide +kernel
theorem dX6_court_63 : decode cX6_court 63 = .ok (.iconst 2, 1) := by decide +kernel
theorem dX6_court_64 : decode cX6_court 64 = .ok (.if_icmp .ne 8, 3) := by decide +kernel
theorem dX6_court_67 : decode cX6_court 67 = .ok (.bipush 60, 2) := by decide +kernel
theorem dX6_court_69 : decode cX6_court 69 = .ok (.goto 4, 3) := by decide +kernel
theorem dX6_court_72 : decode cX6_court 72 = .ok (.iconst 0, 1) := by decide +kernel
theorem dX6_court_73 : decode cX6_court 73 = .ok (.iastore, 1) := by decide +kernel
theorem dX6_court_74 : decode cX6_court 74 = .ok (.iinc 2 1, 3) := by decide +kernel
theorem dX6_court_77 : decode cX6_court 77 = .ok (.goto (-27), 3) := by decide +kernel
theorem dX6_court_80 : decode cX6_court 80 = .ok (.aload_n 0, 1) := by decide +kernel
theorem dX6_court_81 : decode cX6_court 81 = .ok (.invokevirtual 235, 3) := by decide +kernel
theorem dX6_court_84 : decode cX6_court 84 = .ok (.iconst 0, 1) := by decide +kernel
theorem dX6_court_85 : decode cX6_court 85 = .ok (.istore_n 2, 1) := by decide +kernel
theorem dX6_court_86 : decode cX6_court 86 = .ok (.aload_n 0, 1) := by decide +kernel
theorem dX6_court_87 : decode cX6_court 87 = .ok (.getfield 210, 3) := by decide +kernel
theorem dX6_court_90 : decode cX6_court 90 = .ok (.ifCond .ne 19, 3) := by decide +kernel
theorem dX6_court_93 : decode cX6_court 93 = .ok (.aload_n 0, 1) := by decide +kernel
theorem dX6_court_94 : decode cX6_court 94 = .ok (.getfield 184, 3) := by decide +kernel
theorem dX6_court_97 : decode cX6_court 97 = .ok (.ifCond .eq 12, 3) := by decide +kernel
theorem dX6_court_100 : decode cX6_court 100 = .ok (.aload_n 0, 1) := by decide +kernel
theorem dX6_court_101 : decode cX6_court 101 = .ok (.iload_n 2, 1) := by decide +kernel
theorem dX6_court_102 : decode cX6_court 102 = .ok (.invokevirtual 303, 3) := by decide +kernel
theorem dX6_court_105 : decode cX6_court 105 = .ok (.istore_n 2, 1) := by decide +kernel
theorem dX6_court_106 : decode cX6_court 106 = .ok (.goto (-20), 3) := by decide +kernel
theorem dX6_court_109 : decode cX6_court 109 = .ok (.aload_n 0, 1) := by decide +kernel
theorem dX6_court_110 : decode cX6_court 110 = .ok (.getfield 210, 3) := by decide +kernel
theorem dX6_court_113 : decode cX6_court 113 = .ok (.ifCond .eq 26, 3) := by decide +kernel
theorem dX6_court_116 : decode cX6_court 116 = .ok (.aload_n 0, 1) := by decide +kernel
theorem dX6_court_117 : decode cX6_court 117 = .ok (.aload_n 0, 1) := by decide +kernel
theorem dX6_court_118 : decode cX6_court 118 = .ok (.getfield 213, 3) := by decide +kernel
theorem dX6_court_121 : decode cX6_court 121 = .ok (.putfield 78, 3) := by decide +kernel
theorem dX6_court_124 : decode cX6_court 124 = .ok (.aload_n 0, 1) := by decide +kernel
theorem dX6_court_125 : decode cX6_court 125 = .ok (.getfield 70, 3) := by decide +kernel
theorem dX6_court_128 : decode cX6_court 128 = .ok (.iconst 0, 1) := by decide +kernel
theorem dX6_court_129 : decode cX6_court 129 = .ok (.dup2, 1) := by decide +kernel
theorem dX6_court_130 : decode cX6_court 130 = .ok (.iaload, 1) := by decide +kernel
theorem dX6_court_131 : decode cX6_court 131 = .ok (.iconst 1, 1) := by decide +kernel
theorem dX6_court_132 : decode cX6_court 132 = .ok (.iadd, 1) := by decide +kernel
theorem dX6_court_133 : decode cX6_court 133 = .ok (.iastore, 1) := by decide +kernel
theorem dX6_court_134 : decode cX6_court 134 = .ok (.aload_n 0, 1) := by decide +kernel
theorem dX6_court_135 : decode cX6_court 135 = .ok (.getfield 210, 3) := by decide +kernel
theorem dX6_court_138 : decode cX6_court 138 = .ok (.ireturn, 1) := by decide +kernel
theorem dX6_court_139 : decode cX6_court 139 = .ok (.aload_n 0, 1) := by decide +kernel
theorem dX6_court_140 : decode cX6_court 140 = .ok (.invokevirtual 306, 3) := by decide +kernel
theorem dX6_court_143 : decode cX6_court 143 = .ok (.iconst 0, 1) := by decide +kernel
theorem dX6_court_144 : decode cX6_court 144 = .ok (.ireturn, 1) := by decide +kernel
theorem dX6_takeHalf_0 : decode cX6_takeHalf 0 = .ok (.iconst 0, 1) := by decide +kernel
theorem dX6_takeHalf_1 : decode cX6_takeHalf 1 = .ok (.istore_n 1, 1) := by decide +kernel
theorem dX6_takeHalf_2 : decode cX6_takeHalf 2 = .ok (.iload_n 1, 1) := by decide +kernel
theorem dX6_takeHalf_3 : decode cX6_takeHalf 3 = .ok (.aload_n 0, 1) := by decide +kernel
theorem dX6_takeHalf_4 : decode cX6_takeHalf 4 = .ok (.arraylength, 1) := by decide +kernel
theorem dX6_takeHalf_5 : decode cX6_takeHalf 5 = .ok (.iconst 2, 1) := by decide +kernel
theorem dX6_takeHalf_6 : decode cX6_takeHalf 6 = .ok (.idiv, 1) := by decide +kernel
theorem dX6_takeHalf_7 : decode cX6_takeHalf 7 = .ok (.if_icmp .ge 20, 3) := by decide +kernel
theorem dX6_takeHalf_10 : decode cX6_takeHalf 10 = .ok (.aload_n 0, 1) := by decide +kernel
theorem dX6_takeHalf_11 : decode cX6_takeHalf 11 = .ok (.iload_n 1, 1) := by decide +kernel
theorem dX6_takeHalf_12 : decode cX6_takeHalf 12 = .ok (.aload_n 0, 1) := by decide +kernel
theorem dX6_takeHalf_13 : decode cX6_takeHalf 13 = .ok (.aload_n 0, 1) := by decide +kernel
theorem dX6_takeHalf_14 : decode cX6_takeHalf 14 = .ok (.arraylength, 1) := by decide +kernel
theorem dX6_takeHalf_15 : decode cX6_takeHalf 15 = .ok (.iconst 2, 1) := by decide +kernel
theorem dX6_takeHalf_16 : decode cX6_takeHalf 16 = .ok (.idiv, 1) := by decide +kernel
theorem dX6_takeHalf_17 : decode cX6_takeHalf 17 = .ok (.iload_n 1, 1) := by decide +kernel
theorem dX6_takeHalf_18 : decode cX6_takeHalf 18 = .ok (.iadd, 1) := by decide +kernel
theorem dX6_takeHalf_19 : decode cX6_takeHalf 19 = .ok (.iaload, 1) := by decide +kernel
theorem dX6_takeHalf_20 : decode cX6_takeHalf 20 = .ok (.iastore, 1) := by decide +kernel
theorem dX6_takeHalf_21 : decode cX6_takeHalf 21 = .ok (.iinc 1 1, 3) := by decide +kernel
theorem dX6_takeHalf_24 : decode cX6_takeHalf 24 = .ok (.goto (-22), 3) := by decide +kernel
theorem dX6_takeHalf_27 : decode cX6_takeHalf 27 = .ok (.return_, 1) := by decide +kernel
theorem dX6_takeOver_0 : decode cX6_takeOver 0 = .ok (.aload_n 0, 1) := by decide +kernel
theorem dX6_takeOver_1 : decode cX6_takeOver 1 = .ok (.getfield 42, 3) := by decide +kernel
theorem dX6_takeOver_4 : decode cX6_takeOver 4 = .ok (.invokestatic 309, 3) := by decide +kernel
theorem dX6_takeOver_7 : decode cX6_takeOver 7 = .ok (.aload_n 0, 1) := by decide +kernel
theorem dX6_takeOver_8 : decode cX6_takeOver 8 = .ok (.getfield 46, 3) := by decide +kernel
theorem dX6_takeOver_11 : decode cX6_takeOver 11 = .ok (.invokestatic 309, 3) := by decide +kernel
theorem dX6_takeOver_14 : decode cX6_takeOver 14 = .ok (.aload_n 0, 1) := by decide +kernel
theorem dX6_takeOver_15 : decode cX6_takeOver 15 = .ok (.getfield 49, 3) := by decide +kernel
theorem dX6_takeOver_18 : decode cX6_takeOver 18 = .ok (.invokestatic 309, 3) := by decide +kernel
theorem dX6_takeOver_21 : decode cX6_takeOver 21 = .ok (.aload_n 0, 1) := by decide +kernel
theorem dX6_takeOver_22 : decode cX6_takeOver 22 = .ok (.getfield 52, 3) := by decide +kernel
theorem dX6_takeOver_25 : decode cX6_takeOver 25 = .ok (.invokestatic 309, 3) := by decide +kernel
theorem dX6_takeOver_28 : decode cX6_takeOver 28 = .ok (.aload_n 0, 1) := by decide +kernel
theorem dX6_takeOver_29 : decode cX6_takeOver 29 = .ok (.getfield 55, 3) := by decide +kernel
theorem dX6_takeOver_32 : decode cX6_takeOver 32 = .ok (.invokestatic 309, 3) := by decide +kernel
theorem dX6_takeOver_35 : decode cX6_takeOver 35 = .ok (.aload_n 0, 1) := by decide +kernel
theorem dX6_takeOver_36 : decode cX6_takeOver 36 = .ok (.getfield 58, 3) := by decide +kernel
theorem dX6_takeOver_39 : decode cX6_takeOver 39 = .ok (.invokestatic 309, 3) := by decide +kernel
theorem dX6_takeOver_42 : decode cX6_takeOver 42 = .ok (.aload_n 0, 1) := by decide +kernel
theorem dX6_takeOver_43 : decode cX6_takeOver 43 = .ok (.getfield 61, 3) := by decide +kernel
theorem dX6_takeOver_46 : decode cX6_takeOver 46 = .ok (.invokestatic 309, 3) := by decide +kernel
theorem dX6_takeOver_49 : decode cX6_takeOver 49 = .ok (.aload_n 0, 1) := by decide +kernel
theorem dX6_takeOver_50 : decode cX6_takeOver 50 = .ok (.getfield 64, 3) := by decide +kernel
theorem dX6_takeOver_53 : decode cX6_takeOver 53 = .ok (.invokestatic 309, 3) := by decide +kernel
theorem dX6_takeOver_56 : decode cX6_takeOver 56 = .ok (.aload_n 0, 1) := by decide +kernel
theorem dX6_takeOver_57 : decode cX6_takeOver 57 = .ok (.getfield 67, 3) := by decide +kernel
theorem dX6_takeOver_60 : decode cX6_takeOver 60 = .ok (.invokestatic 309, 3) := by decide +kernel
theorem dX6_takeOver_63 : decode cX6_takeOver 63 = .ok (.aload_n 0, 1) := by decide +kernel
theorem dX6_takeOver_64 : decode cX6_takeOver 64 = .ok (.iconst 0, 1) := by decide +kernel
theorem dX6_takeOver_65 : decode cX6_takeOver 65 = .ok (.putfield 313, 3) := by decide +kernel
theorem dX6_takeOver_68 : decode cX6_takeOver 68 = .ok (.aload_n 0, 1) := by decide +kernel
theorem dX6_takeOver_69 : decode cX6_takeOver 69 = .ok (.aload_n 0, 1) := by decide +kernel
theorem dX6_takeOver_70 : decode cX6_takeOver 70 = .ok (.getfield 42, 3) := by decide +kernel
theorem dX6_takeOver_73 : decode cX6_takeOver 73 = .ok (.iconst 2, 1) := by decide +kernel
theorem dX6_takeOver_74 : decode cX6_takeOver 74 = .ok (.iaload, 1) := by decide +kernel
theorem dX6_takeOver_75 : decode cX6_takeOver 75 = .ok (.putfield 151, 3) := by decide +kernel
theorem dX6_takeOver_78 : decode cX6_takeOver 78 = .ok (.aload_n 0, 1) := by decide +kernel
theorem dX6_takeOver_79 : decode cX6_takeOver 79 = .ok (.iconst (-1), 1) := by decide +kernel
theorem dX6_takeOver_80 : decode cX6_takeOver 80 = .ok (.putfield 154, 3) := by decide +kernel
theorem dX6_takeOver_83 : decode cX6_takeOver 83 = .ok (.iconst 0, 1) := by decide +kernel
theorem dX6_takeOver_84 : decode cX6_takeOver 84 = .ok (.istore_n 1, 1) := by decide +kernel
theorem dX6_takeOver_85 : decode cX6_takeOver 85 = .ok (.iload_n 1, 1) := by decide +kernel
theorem dX6_takeOver_86 : decode cX6_takeOver 86 = .ok (.bipush 8, 2) := by decide +kernel
theorem dX6_takeOver_88 : decode cX6_takeOver 88 = .ok (.if_icmp .ge 35, 3) := by decide +kernel
theorem dX6_takeOver_91 : decode cX6_takeOver 91 = .ok (.aload_n 0, 1) := by decide +kernel
theorem dX6_takeOver_92 : decode cX6_takeOver 92 = .ok (.getfield 82, 3) := by decide +kernel
theorem dX6_takeOver_95 : decode cX6_takeOver 95 = .ok (.iload_n 1, 1) := by decide +kernel
theorem dX6_takeOver_96 : decode cX6_takeOver 96 = .ok (.iload_n 1, 1) := by decide +kernel
theorem dX6_takeOver_97 : decode cX6_takeOver 97 = .ok (.aload_n 0, 1) := by decide +kernel
theorem dX6_takeOver_98 : decode cX6_takeOver 98 = .ok (.getfield 42, 3) := by decide +kernel
theorem dX6_takeOver_101 : decode cX6_takeOver 101 = .ok (.iconst 0, 1) := by decide +kernel
theorem dX6_takeOver_102 : decode cX6_takeOver 102 = .ok (.iaload, 1) := by decide +kernel
theorem dX6_takeOver_103 : decode cX6_takeOver 103 = .ok (.if_icmp .ge 12, 3) := by decide +kernel
theorem dX6_takeOver_106 : decode cX6_takeOver 106 = .ok (.aload_n 0, 1) := by decide +kernel
theorem dX6_takeOver_107 : decode cX6_takeOver 107 = .ok (.getfield 46, 3) := by decide +kernel
theorem dX6_takeOver_110 : decode cX6_takeOver 110 = .ok (.iload_n 1, 1) := by decide +kernel
theorem dX6_takeOver_111 : decode cX6_takeOver 111 = .ok (.iaload, 1) := by decide +kernel
theorem dX6_takeOver_112 : decode cX6_takeOver 112 = .ok (.goto 4, 3) := by decide +kernel
theorem dX6_takeOver_115 : decode cX6_takeOver 115 = .ok (.iconst 0, 1) := by decide +kernel
theorem dX6_takeOver_116 : decode cX6_takeOver 116 = .ok (.iastore, 1) := by decide +kernel
theorem dX6_takeOver_117 : decode cX6_takeOver 117 = .ok (.iinc 1 1, 3) := by decide +kernel
theorem dX6_takeOver_120 : decode cX6_takeOver 120 = .ok (.goto (-35), 3) := by decide +kernel
theorem dX6_takeOver_123 : decode cX6_takeOver 123 = .ok (.iconst 0, 1) := by decide +kernel
theorem dX6_takeOver_124 : decode cX6_takeOver 124 = .ok (.istore_n 1, 1) := by decide +kernel
theorem dX6_takeOver_125 : decode cX6_takeOver 125 = .ok (.iload_n 1, 1) := by decide +kernel
theorem dX6_takeOver_126 : decode cX6_takeOver 126 = .ok (.bipush 8, 2) := by decide +kernel
theorem dX6_takeOver_128 : decode cX6_takeOver 128 = .ok (.if_icmp .ge 72, 3) := by decide +kernel
theorem dX6_takeOver_131 : decode cX6_takeOver 131 = .ok (.iload_n 1, 1) := by decide +kernel
theorem dX6_takeOver_132 : decode cX6_takeOver 132 = .ok (.aload_n 0, 1) := by decide +kernel
theorem dX6_takeOver_133 : decode cX6_takeOver 133 = .ok (.getfield 42, 3) := by decide +kernel
theorem dX6_takeOver_136 : decode cX6_takeOver 136 = .ok (.iconst 1, 1) := by decide +kernel
theorem dX6_takeOver_137 : decode cX6_takeOver 137 = .ok (.iaload, 1) := by decide +kernel
theorem dX6_takeOver_138 : decode cX6_takeOver 138 = .ok (.if_icmp .ge 7, 3) := by decide +kernel
theorem dX6_takeOver_141 : decode cX6_takeOver 141 = .ok (.iconst 1, 1) := by decide +kernel
theorem dX6_takeOver_142 : decode cX6_takeOver 142 = .ok (.goto 4, 3) := by decide +kernel
theorem dX6_takeOver_145 : decode cX6_takeOver 145 = .ok (.iconst 0, 1) := by decide +kernel
theorem dX6_takeOver_146 : decode cX6_takeOver 146 = .ok (.istore_n 2, 1) := by decide +kernel
theorem dX6_takeOver_147 : decode cX6_takeOver 147 = .ok (.aload_n 0, 1) := by decide +kernel
theorem dX6_takeOver_148 : decode cX6_takeOver 148 = .ok (.getfield 73, 3) := by decide +kernel
theorem dX6_takeOver_151 : decode cX6_takeOver 151 = .ok (.iload_n 1, 1) := by decide +kernel
theorem dX6_takeOver_152 : decode cX6_takeOver 152 = .ok (.iload_n 2, 1) := by decide +kernel
theorem dX6_takeOver_153 : decode cX6_takeOver 153 = .ok (.ifCond .eq 12, 3) := by decide +kernel
theorem dX6_takeOver_156 : decode cX6_takeOver 156 = .ok (.aload_n 0, 1) := by decide +kernel
theorem dX6_takeOver_157 : decode cX6_takeOver 157 = .ok (.getfield 55, 3) := by decide +kernel
theorem dX6_takeOver_160 : decode cX6_takeOver 160 = .ok (.iload_n 1, 1) := by decide +kernel
theorem dX6_takeOver_161 : decode cX6_takeOver 161 = .ok (.iaload, 1) := by decide +kernel
theorem dX6_takeOver_162 : decode cX6_takeOver 162 = .ok (.goto 4, 3) := by decide +kernel
theorem dX6_takeOver_165 : decode cX6_takeOver 165 = .ok (.iconst 0, 1) := by decide +kernel
theorem dX6_takeOver_166 : decode cX6_takeOver 166 = .ok (.iastore, 1) := by decide +kernel
theorem dX6_takeOver_167 : decode cX6_takeOver 167 = .ok (.aload_n 0, 1) := by decide +kernel
theorem dX6_takeOver_168 : decode cX6_takeOver 168 = .ok (.getfield 88, 3) := by decide +kernel
theorem dX6_takeOver_171 : decode cX6_takeOver 171 = .ok (.iload_n 1, 1) := by decide +kernel
theorem dX6_takeOver_172 : decode cX6_takeOver 172 = .ok (.iload_n 2, 1) := by decide +kernel
theorem dX6_takeOver_173 : decode cX6_takeOver 173 = .ok (.ifCond .eq 12, 3) := by decide +kernel
theorem dX6_takeOver_176 : decode cX6_takeOver 176 = .ok (.aload_n 0, 1) := by decide +kernel
theorem dX6_takeOver_177 : decode cX6_takeOver 177 = .ok (.getfield 58, 3) := by decide +kernel
theorem dX6_takeOver_180 : decode cX6_takeOver 180 = .ok (.iload_n 1, 1) := by decide +kernel
theorem dX6_takeOver_181 : decode cX6_takeOver 181 = .ok (.iaload, 1) := by decide +kernel
theorem dX6_takeOver_182 : decode cX6_takeOver 182 = .ok (.goto 4, 3) := by decide +kernel
theorem dX6_takeOver_185 : decode cX6_takeOver 185 = .ok (.iconst 0, 1) := by decide +kernel
theorem dX6_takeOver_186 : decode cX6_takeOver 186 = .ok (.iastore, 1) := by decide +kernel
theorem dX6_takeOver_187 : decode cX6_takeOver 187 = .ok (.aload_n 0, 1) := by decide +kernel
theorem dX6_takeOver_188 : decode cX6_takeOver 188 = .ok (.getfield 85, 3) := by decide +kernel
theorem dX6_takeOver_191 : decode cX6_takeOver 191 = .ok (.iload_n 1, 1) := by decide +kernel
theorem dX6_takeOver_192 : decode cX6_takeOver 192 = .ok (.iload_n 1, 1) := by decide +kernel
theorem dX6_takeOver_193 : decode cX6_takeOver 193 = .ok (.iastore, 1) := by decide +kernel
theorem dX6_takeOver_194 : decode cX6_takeOver 194 = .ok (.iinc 1 1, 3) := by decide +kernel
theorem dX6_takeOver_197 : decode cX6_takeOver 197 = .ok (.goto (-72), 3) := by decide +kernel
theorem dX6_takeOver_200 : decode cX6_takeOver 200 = .ok (.aload_n 0, 1) := by decide +kernel
theorem dX6_takeOver_201 : decode cX6_takeOver 201 = .ok (.iconst 0, 1) := by decide +kernel
theorem dX6_takeOver_202 : decode cX6_takeOver 202 = .ok (.putfield 316, 3) := by decide +kernel
theorem dX6_takeOver_205 : decode cX6_takeOver 205 = .ok (.aload_n 0, 1) := by decide +kernel
theorem dX6_takeOver_206 : decode cX6_takeOver 206 = .ok (.iconst 0, 1) := by decide +kernel
theorem dX6_takeOver_207 : decode cX6_takeOver 207 = .ok (.putfield 319, 3) := by decide +kernel
theorem dX6_takeOver_210 : decode cX6_takeOver 210 = .ok (.aload_n 0, 1) := by decide +kernel
theorem dX6_takeOver_211 : decode cX6_takeOver 211 = .ok (.iconst 0, 1) := by decide +kernel
theorem dX6_takeOver_212 : decode cX6_takeOver 212 = .ok (.putfield 322, 3) := by decide +kernel
theorem dX6_takeOver_215 : decode cX6_takeOver 215 = .ok (.return_, 1) := by decide +kernel
theorem dX6_fault_0 : decode cX6_fault 0 = .ok (.aload_n 0, 1) := by decide +kernel
theorem dX6_fault_1 : decode cX6_fault 1 = .ok (.iconst 0, 1) := by decide +kernel
theorem dX6_fault_2 : decode cX6_fault 2 = .ok (.putfield 157, 3) := by decide +kernel
theorem dX6_fault_5 : decode cX6_fault 5 = .ok (.aload_n 0, 1) := by decide +kernel
theorem dX6_fault_6 : decode cX6_fault 6 = .ok (.getfield 78, 3) := by decide +kernel
theorem dX6_fault_9 : decode cX6_fault 9 = .ok (.ireturn, 1) := by decide +kernel
theorem dX6_pack_0 : decode cX6_pack 0 = .ok (.aload_n 1, 1) := by decide +kernel
theorem dX6_pack_1 : decode cX6_pack 1 = .ok (.iload_n 2, 1) := by decide +kernel
theorem dX6_pack_2 : decode cX6_pack 2 = .ok (.aload_n 0, 1) := by decide +kernel
theorem dX6_pack_3 : decode cX6_pack 3 = .ok (.getfield 313, 3) := by decide +kernel
theorem dX6_pack_6 : decode cX6_pack 6 = .ok (.iastore, 1) := by decide +kernel
theorem dX6_pack_7 : decode cX6_pack 7 = .ok (.aload_n 1, 1) := by decide +kernel
theorem dX6_pack_8 : decode cX6_pack 8 = .ok (.iload_n 2, 1) := by decide +kernel
theorem dX6_pack_9 : decode cX6_pack 9 = .ok (.iconst 1, 1) := by decide +kernel
theorem dX6_pack_10 : decode cX6_pack 10 = .ok (.iadd, 1) := by decide +kernel
theorem dX6_pack_11 : decode cX6_pack 11 = .ok (.aload_n 0, 1) := by decide +kernel
theorem dX6_pack_12 : decode cX6_pack 12 = .ok (.getfield 151, 3) := by decide +kernel
theorem dX6_pack_15 : decode cX6_pack 15 = .ok (.iastore, 1) := by decide +kernel
theorem dX6_pack_16 : decode cX6_pack 16 = .ok (.aload_n 1, 1) := by decide +kernel
theorem dX6_pack_17 : decode cX6_pack 17 = .ok (.iload_n 2, 1) := by decide +kernel
theorem dX6_pack_18 : decode cX6_pack 18 = .ok (.iconst 2, 1) := by decide +kernel
theorem dX6_pack_19 : decode cX6_pack 19 = .ok (.iadd, 1) := by decide +kernel
theorem dX6_pack_20 : decode cX6_pack 20 = .ok (.aload_n 0, 1) := by decide +kernel
theorem dX6_pack_21 : decode cX6_pack 21 = .ok (.getfield 154, 3) := by decide +kernel
theorem dX6_pack_24 : decode cX6_pack 24 = .ok (.iastore, 1) := by decide +kernel
theorem dX6_pack_25 : decode cX6_pack 25 = .ok (.iconst 0, 1) := by decide +kernel
theorem dX6_pack_26 : decode cX6_pack 26 = .ok (.istore_n 3, 1) := by decide +kernel
theorem dX6_pack_27 : decode cX6_pack 27 = .ok (.iload_n 3, 1) := by decide +kernel
theorem dX6_pack_28 : decode cX6_pack 28 = .ok (.bipush 8, 2) := by decide +kernel
theorem dX6_pack_30 : decode cX6_pack 30 = .ok (.if_icmp .ge 22, 3) := by decide +kernel
theorem dX6_pack_33 : decode cX6_pack 33 = .ok (.aload_n 1, 1) := by decide +kernel
theorem dX6_pack_34 : decode cX6_pack 34 = .ok (.iload_n 2, 1) := by decide +kernel
theorem dX6_pack_35 : decode cX6_pack 35 = .ok (.iconst 3, 1) := by decide +kernel
theorem dX6_pack_36 : decode cX6_pack 36 = .ok (.iadd, 1) := by decide +kernel
theorem dX6_pack_37 : decode cX6_pack 37 = .ok (.iload_n 3, 1) := by decide +kernel
theorem dX6_pack_38 : decode cX6_pack 38 = .ok (.iadd, 1) := by decide +kernel
theorem dX6_pack_39 : decode cX6_pack 39 = .ok (.aload_n 0, 1) := by decide +kernel
theorem dX6_pack_40 : decode cX6_pack 40 = .ok (.getfield 82, 3) := by decide +kernel
theorem dX6_pack_43 : decode cX6_pack 43 = .ok (.iload_n 3, 1) := by decide +kernel
theorem dX6_pack_44 : decode cX6_pack 44 = .ok (.iaload, 1) := by decide +kernel
theorem dX6_pack_45 : decode cX6_pack 45 = .ok (.iastore, 1) := by decide +kernel
theorem dX6_pack_46 : decode cX6_pack 46 = .ok (.iinc 3 1, 3) := by decide +kernel
theorem dX6_pack_49 : decode cX6_pack 49 = .ok (.goto (-22), 3) := by decide +kernel
theorem dX6_pack_52 : decode cX6_pack 52 = .ok (.iconst 0, 1) := by decide +kernel
theorem dX6_pack_53 : decode cX6_pack 53 = .ok (.istore_n 3, 1) := by decide +kernel
theorem dX6_pack_54 : decode cX6_pack 54 = .ok (.iload_n 3, 1) := by decide +kernel
theorem dX6_pack_55 : decode cX6_pack 55 = .ok (.bipush 8, 2) := by decide +kernel
theorem dX6_pack_57 : decode cX6_pack 57 = .ok (.if_icmp .ge 44, 3) := by decide +kernel
theorem dX6_pack_60 : decode cX6_pack 60 = .ok (.aload_n 1, 1) := by decide +kernel
theorem dX6_pack_61 : decode cX6_pack 61 = .ok (.iload_n 2, 1) := by decide +kernel
theorem dX6_pack_62 : decode cX6_pack 62 = .ok (.iconst 3, 1) := by decide +kernel
theorem dX6_pack_63 : decode cX6_pack 63 = .ok (.iadd, 1) := by decide +kernel
theorem dX6_pack_64 : decode cX6_pack 64 = .ok (.bipush 8, 2) := by decide +kernel
theorem dX6_pack_66 : decode cX6_pack 66 = .ok (.iadd, 1) := by decide +kernel
theorem dX6_pack_67 : decode cX6_pack 67 = .ok (.iload_n 3, 1) := by decide +kernel
theorem dX6_pack_68 : decode cX6_pack 68 = .ok (.iadd, 1) := by decide +kernel
theorem dX6_pack_69 : decode cX6_pack 69 = .ok (.aload_n 0, 1) := by decide +kernel
theorem dX6_pack_70 : decode cX6_pack 70 = .ok (.getfield 85, 3) := by decide +kernel
theorem dX6_pack_73 : decode cX6_pack 73 = .ok (.iload_n 3, 1) := by decide +kernel
theorem dX6_pack_74 : decode cX6_pack 74 = .ok (.iaload, 1) := by decide +kernel
theorem dX6_pack_75 : decode cX6_pack 75 = .ok (.iastore, 1) := by decide +kernel
theorem dX6_pack_76 : decode cX6_pack 76 = .ok (.aload_n 1, 1) := by decide +kernel
theorem dX6_pack_77 : decode cX6_pack 77 = .ok (.iload_n 2, 1) := by decide +kernel
theorem dX6_pack_78 : decode cX6_pack 78 = .ok (.iconst 3, 1) := by decide +kernel
theorem dX6_pack_79 : decode cX6_pack 79 = .ok (.iadd, 1) := by decide +kernel
theorem dX6_pack_80 : decode cX6_pack 80 = .ok (.bipush 8, 2) := by decide +kernel
theorem dX6_pack_82 : decode cX6_pack 82 = .ok (.iadd, 1) := by decide +kernel
theorem dX6_pack_83 : decode cX6_pack 83 = .ok (.bipush 8, 2) := by decide +kernel
theorem dX6_pack_85 : decode cX6_pack 85 = .ok (.iadd, 1) := by decide +kernel
theorem dX6_pack_86 : decode cX6_pack 86 = .ok (.iload_n 3, 1) := by decide +kernel
theorem dX6_pack_87 : decode cX6_pack 87 = .ok (.iadd, 1) := by decide +kernel
theorem dX6_pack_88 : decode cX6_pack 88 = .ok (.aload_n 0, 1) := by decide +kernel
theorem dX6_pack_89 : decode cX6_pack 89 = .ok (.getfield 88, 3) := by decide +kernel
theorem dX6_pack_92 : decode cX6_pack 92 = .ok (.iload_n 3, 1) := by decide +kernel
theorem dX6_pack_93 : decode cX6_pack 93 = .ok (.iaload, 1) := by decide +kernel
theorem dX6_pack_94 : decode cX6_pack 94 = .ok (.iastore, 1) := by decide +kernel
theorem dX6_pack_95 : decode cX6_pack 95 = .ok (.iinc 3 1, 3) := by decide +kernel
theorem dX6_pack_98 : decode cX6_pack 98 = .ok (.goto (-44), 3) := by decide +kernel
theorem dX6_pack_101 : decode cX6_pack 101 = .ok (.return_, 1) := by decide +kernel
theorem dX6_unpack_0 : decode cX6_unpack 0 = .ok (.aload_n 0, 1) := by decide +kernel
theorem dX6_unpack_1 : decode cX6_unpack 1 = .ok (.aload_n 1, 1) := by decide +kernel
theorem dX6_unpack_2 : decode cX6_unpack 2 = .ok (.iload_n 2, 1) := by decide +kernel
theorem dX6_unpack_3 : decode cX6_unpack 3 = .ok (.iaload, 1) := by decide +kernel
theorem dX6_unpack_4 : decode cX6_unpack 4 = .ok (.putfield 313, 3) := by decide +kernel
theorem dX6_unpack_7 : decode cX6_unpack 7 = .ok (.aload_n 0, 1) := by decide +kernel
theorem dX6_unpack_8 : decode cX6_unpack 8 = .ok (.aload_n 1, 1) := by decide +kernel
theorem dX6_unpack_9 : decode cX6_unpack 9 = .ok (.iload_n 2, 1) := by decide +kernel
theorem dX6_unpack_10 : decode cX6_unpack 10 = .ok (.iconst 1, 1) := by decide +kernel
theorem dX6_unpack_11 : decode cX6_unpack 11 = .ok (.iadd, 1) := by decide +kernel
theorem dX6_unpack_12 : decode cX6_unpack 12 = .ok (.iaload, 1) := by decide +kernel
theorem dX6_unpack_13 : decode cX6_unpack 13 = .ok (.putfield 151, 3) := by decide +kernel
theorem dX6_unpack_16 : decode cX6_unpack 16 = .ok (.aload_n 0, 1) := by decide +kernel
theorem dX6_unpack_17 : decode cX6_unpack 17 = .ok (.aload_n 1, 1) := by decide +kernel
theorem dX6_unpack_18 : decode cX6_unpack 18 = .ok (.iload_n 2, 1) := by decide +kernel
theorem dX6_unpack_19 : decode cX6_unpack 19 = .ok (.iconst 2, 1) := by decide +kernel
theorem dX6_unpack_20 : decode cX6_unpack 20 = .ok (.iadd, 1) := by decide +kernel
theorem dX6_unpack_21 : decode cX6_unpack 21 = .ok (.iaload, 1) := by decide +kernel
theorem dX6_unpack_22 : decode cX6_unpack 22 = .ok (.putfield 154, 3) := by decide +kernel
theorem dX6_unpack_25 : decode cX6_unpack 25 = .ok (.iconst 0, 1) := by decide +kernel
theorem dX6_unpack_26 : decode cX6_unpack 26 = .ok (.istore_n 3, 1) := by decide +kernel
theorem dX6_unpack_27 : decode cX6_unpack 27 = .ok (.iload_n 3, 1) := by decide +kernel
theorem dX6_unpack_28 : decode cX6_unpack 28 = .ok (.bipush 8, 2) := by decide +kernel
theorem dX6_unpack_30 : decode cX6_unpack 30 = .ok (.if_icmp .ge 22, 3) := by decide +kernel
theorem dX6_unpack_33 : decode cX6_unpack 33 = .ok (.aload_n 0, 1) := by decide +kernel
theorem dX6_unpack_34 : decode cX6_unpack 34 = .ok (.getfield 82, 3) := by decide +kernel
theorem dX6_unpack_37 : decode cX6_unpack 37 = .ok (.iload_n 3, 1) := by decide +kernel
theorem dX6_unpack_38 : decode cX6_unpack 38 = .ok (.aload_n 1, 1) := by decide +kernel
theorem dX6_unpack_39 : decode cX6_unpack 39 = .ok (.iload_n 2, 1) := by decide +kernel
theorem dX6_unpack_40 : decode cX6_unpack 40 = .ok (.iconst 3, 1) := by decide +kernel
theorem dX6_unpack_41 : decode cX6_unpack 41 = .ok (.iadd, 1) := by decide +kernel
theorem dX6_unpack_42 : decode cX6_unpack 42 = .ok (.iload_n 3, 1) := by decide +kernel
theorem dX6_unpack_43 : decode cX6_unpack 43 = .ok (.iadd, 1) := by decide +kernel
theorem dX6_unpack_44 : decode cX6_unpack 44 = .ok (.iaload, 1) := by decide +kernel
theorem dX6_unpack_45 : decode cX6_unpack 45 = .ok (.iastore, 1) := by decide +kernel
theorem dX6_unpack_46 : decode cX6_unpack 46 = .ok (.iinc 3 1, 3) := by decide +kernel
theorem dX6_unpack_49 : decode cX6_unpack 49 = .ok (.goto (-22), 3) := by decide +kernel
theorem dX6_unpack_52 : decode cX6_unpack 52 = .ok (.iconst 0, 1) := by decide +kernel
theorem dX6_unpack_53 : decode cX6_unpack 53 = .ok (.istore_n 3, 1) := by decide +kernel
theorem dX6_unpack_54 : decode cX6_unpack 54 = .ok (.iload_n 3, 1) := by decide +kernel
theorem dX6_unpack_55 : decode cX6_unpack 55 = .ok (.bipush 8, 2) := by decide +kernel
theorem dX6_unpack_57 : decode cX6_unpack 57 = .ok (.if_icmp .ge 44, 3) := by decide +kernel
theorem dX6_unpack_60 : decode cX6_unpack 60 = .ok (.aload_n 0, 1) := by decide +kernel
theorem dX6_unpack_61 : decode cX6_unpack 61 = .ok (.getfield 85, 3) := by decide +kernel
theorem dX6_unpack_64 : decode cX6_unpack 64 = .ok (.iload_n 3, 1) := by decide +kernel
theorem dX6_unpack_65 : decode cX6_unpack 65 = .ok (.aload_n 1, 1) := by decide +kernel
theorem dX6_unpack_66 : decode cX6_unpack 66 = .ok (.iload_n 2, 1) := by decide +kernel
theorem dX6_unpack_67 : decode cX6_unpack 67 = .ok (.iconst 3, 1) := by decide +kernel
theorem dX6_unpack_68 : decode cX6_unpack 68 = .ok (.iadd, 1) := by decide +kernel
theorem dX6_unpack_69 : decode cX6_unpack 69 = .ok (.bipush 8, 2) := by decide +kernel
theorem dX6_unpack_71 : decode cX6_unpack 71 = .ok (.iadd, 1) := by decide +kernel
theorem dX6_unpack_72 : decode cX6_unpack 72 = .ok (.iload_n 3, 1) := by decide +kernel
theorem dX6_unpack_73 : decode cX6_unpack 73 = .ok (.iadd, 1) := by decide +kernel
theorem dX6_unpack_74 : decode cX6_unpack 74 = .ok (.iaload, 1) := by decide +kernel
theorem dX6_unpack_75 : decode cX6_unpack 75 = .ok (.iastore, 1) := by decide +kernel
theorem dX6_unpack_76 : decode cX6_unpack 76 = .ok (.aload_n 0, 1) := by decide +kernel
theorem dX6_unpack_77 : decode cX6_unpack 77 = .ok (.getfield 88, 3) := by decide +kernel
theorem dX6_unpack_80 : decode cX6_unpack 80 = .ok (.iload_n 3, 1) := by decide +kernel
theorem dX6_unpack_81 : decode cX6_unpack 81 = .ok (.aload_n 1, 1) := by decide +kernel
theorem dX6_unpack_82 : decode cX6_unpack 82 = .ok (.iload_n 2, 1) := by decide +kernel
theorem dX6_unpack_83 : decode cX6_unpack 83 = .ok (.iconst 3, 1) := by decide +kernel
theorem dX6_unpack_84 : decode cX6_unpack 84 = .ok (.iadd, 1) := by decide +kernel
theorem dX6_unpack_85 : decode cX6_unpack 85 = .ok (.bipush 8, 2) := by decide +kernel
theorem dX6_unpack_87 : decode cX6_unpack 87 = .ok (.iadd, 1) := by decide +kernel
theorem dX6_unpack_88 : decode cX6_unpack 88 = .ok (.bipush 8, 2) := by decide +kernel
theorem dX6_unpack_90 : decode cX6_unpack 90 = .ok (.iadd, 1) := by decide +kernel
theorem dX6_unpack_91 : decode cX6_unpack 91 = .ok (.iload_n 3, 1) := by decide +kernel
theorem dX6_unpack_92 : decode cX6_unpack 92 = .ok (.iadd, 1) := by decide +kernel
theorem dX6_unpack_93 : decode cX6_unpack 93 = .ok (.iaload, 1) := by decide +kernel
theorem dX6_unpack_94 : decode cX6_unpack 94 = .ok (.iastore, 1) := by decide +kernel
theorem dX6_unpack_95 : decode cX6_unpack 95 = .ok (.iinc 3 1, 3) := by decide +kernel
theorem dX6_unpack_98 : decode cX6_unpack 98 = .ok (.goto (-44), 3) := by decide +kernel
theorem dX6_unpack_101 : decode cX6_unpack 101 = .ok (.return_, 1) := by decide +kernel
theorem dX6_reckon_0 : decode cX6_reckon 0 = .ok (.iload_n 0, 1) := by decide +kernel
theorem dX6_reckon_1 : decode cX6_reckon 1 = .ok (.tableswitch 103 (-26) (-20) #[89, 78, 67, 55, 51, 47, 43], 43) := by decide +kernel
theorem dX6_reckon_44 : decode cX6_reckon 44 = .ok (.iload_n 1, 1) := by decide +kernel
theorem dX6_reckon_45 : decode cX6_reckon 45 = .ok (.iload_n 2, 1) := by decide +kernel
theorem dX6_reckon_46 : decode cX6_reckon 46 = .ok (.iadd, 1) := by decide +kernel
theorem dX6_reckon_47 : decode cX6_reckon 47 = .ok (.ireturn, 1) := by decide +kernel
theorem dX6_reckon_48 : decode cX6_reckon 48 = .ok (.iload_n 1, 1) := by decide +kernel
theorem dX6_reckon_49 : decode cX6_reckon 49 = .ok (.iload_n 2, 1) := by decide +kernel
theorem dX6_reckon_50 : decode cX6_reckon 50 = .ok (.isub, 1) := by decide +kernel
theorem dX6_reckon_51 : decode cX6_reckon 51 = .ok (.ireturn, 1) := by decide +kernel
theorem dX6_reckon_52 : decode cX6_reckon 52 = .ok (.iload_n 1, 1) := by decide +kernel
theorem dX6_reckon_53 : decode cX6_reckon 53 = .ok (.iload_n 2, 1) := by decide +kernel
theorem dX6_reckon_54 : decode cX6_reckon 54 = .ok (.imul, 1) := by decide +kernel
theorem dX6_reckon_55 : decode cX6_reckon 55 = .ok (.ireturn, 1) := by decide +kernel
theorem dX6_reckon_56 : decode cX6_reckon 56 = .ok (.iload_n 2, 1) := by decide +kernel
theorem dX6_reckon_57 : decode cX6_reckon 57 = .ok (.ifCond .ne 7, 3) := by decide +kernel
theorem dX6_reckon_60 : decode cX6_reckon 60 = .ok (.iconst 0, 1) := by decide +kernel
theorem dX6_reckon_61 : decode cX6_reckon 61 = .ok (.goto 6, 3) := by decide +kernel
theorem dX6_reckon_64 : decode cX6_reckon 64 = .ok (.iload_n 1, 1) := by decide +kernel
theorem dX6_reckon_65 : decode cX6_reckon 65 = .ok (.iload_n 2, 1) := by decide +kernel
theorem dX6_reckon_66 : decode cX6_reckon 66 = .ok (.idiv, 1) := by decide +kernel
theorem dX6_reckon_67 : decode cX6_reckon 67 = .ok (.ireturn, 1) := by decide +kernel
theorem dX6_reckon_68 : decode cX6_reckon 68 = .ok (.iload_n 1, 1) := by decide +kernel
theorem dX6_reckon_69 : decode cX6_reckon 69 = .ok (.iload_n 2, 1) := by decide +kernel
theorem dX6_reckon_70 : decode cX6_reckon 70 = .ok (.if_icmp .ge 7, 3) := by decide +kernel
theorem dX6_reckon_73 : decode cX6_reckon 73 = .ok (.iconst 1, 1) := by decide +kernel
theorem dX6_reckon_74 : decode cX6_reckon 74 = .ok (.goto 4, 3) := by decide +kernel
theorem dX6_reckon_77 : decode cX6_reckon 77 = .ok (.iconst 0, 1) := by decide +kernel
theorem dX6_reckon_78 : decode cX6_reckon 78 = .ok (.ireturn, 1) := by decide +kernel
theorem dX6_reckon_79 : decode cX6_reckon 79 = .ok (.iload_n 1, 1) := by decide +kernel
theorem dX6_reckon_80 : decode cX6_reckon 80 = .ok (.iload_n 2, 1) := by decide +kernel
theorem dX6_reckon_81 : decode cX6_reckon 81 = .ok (.if_icmp .ne 7, 3) := by decide +kernel
theorem dX6_reckon_84 : decode cX6_reckon 84 = .ok (.iconst 1, 1) := by decide +kernel
theorem dX6_reckon_85 : decode cX6_reckon 85 = .ok (.goto 4, 3) := by decide +kernel
theorem dX6_reckon_88 : decode cX6_reckon 88 = .ok (.iconst 0, 1) := by decide +kernel
theorem dX6_reckon_89 : decode cX6_reckon 89 = .ok (.ireturn, 1) := by decide +kernel
theorem dX6_reckon_90 : decode cX6_reckon 90 = .ok (.iload_n 1, 1) := by decide +kernel
theorem dX6_reckon_91 : decode cX6_reckon 91 = .ok (.ifCond .eq 11, 3) := by decide +kernel
theorem dX6_reckon_94 : decode cX6_reckon 94 = .ok (.iload_n 2, 1) := by decide +kernel
theorem dX6_reckon_95 : decode cX6_reckon 95 = .ok (.ifCond .eq 7, 3) := by decide +kernel
theorem dX6_reckon_98 : decode cX6_reckon 98 = .ok (.iconst 1, 1) := by decide +kernel
theorem dX6_reckon_99 : decode cX6_reckon 99 = .ok (.goto 4, 3) := by decide +kernel
theorem dX6_reckon_102 : decode cX6_reckon 102 = .ok (.iconst 0, 1) := by decide +kernel
theorem dX6_reckon_103 : decode cX6_reckon 103 = .ok (.ireturn, 1) := by decide +kernel
theorem dX6_reckon_104 : decode cX6_reckon 104 = .ok (.iload_n 1, 1) := by decide +kernel
theorem dX6_reckon_105 : decode cX6_reckon 105 = .ok (.ifCond .ne 7, 3) := by decide +kernel
theorem dX6_reckon_108 : decode cX6_reckon 108 = .ok (.iload_n 2, 1) := by decide +kernel
theorem dX6_reckon_109 : decode cX6_reckon 109 = .ok (.ifCond .eq 7, 3) := by decide +kernel
theorem dX6_reckon_112 : decode cX6_reckon 112 = .ok (.iconst 1, 1) := by decide +kernel
theorem dX6_reckon_113 : decode cX6_reckon 113 = .ok (.goto 4, 3) := by decide +kernel
theorem dX6_reckon_116 : decode cX6_reckon 116 = .ok (.iconst 0, 1) := by decide +kernel
theorem dX6_reckon_117 : decode cX6_reckon 117 = .ok (.ireturn, 1) := by decide +kernel
theorem dX6_valueNow_0 : decode cX6_valueNow 0 = .ok (.iconst 0, 1) := by decide +kernel
theorem dX6_valueNow_1 : decode cX6_valueNow 1 = .ok (.istore_n 3, 1) := by decide +kernel
theorem dX6_valueNow_2 : decode cX6_valueNow 2 = .ok (.iconst 0, 1) := by decide +kernel
theorem dX6_valueNow_3 : decode cX6_valueNow 3 = .ok (.istore 4, 2) := by decide +kernel
theorem dX6_valueNow_5 : decode cX6_valueNow 5 = .ok (.iload 4, 2) := by decide +kernel
theorem dX6_valueNow_7 : decode cX6_valueNow 7 = .ok (.iload_n 2, 1) := by decide +kernel
theorem dX6_valueNow_8 : decode cX6_valueNow 8 = .ok (.if_icmp .ge 117, 3) := by decide +kernel
theorem dX6_valueNow_11 : decode cX6_valueNow 11 = .ok (.aload_n 1, 1) := by decide +kernel
theorem dX6_valueNow_12 : decode cX6_valueNow 12 = .ok (.iload 4, 2) := by decide +kernel
theorem dX6_valueNow_14 : decode cX6_valueNow 14 = .ok (.iaload, 1) := by decide +kernel
theorem dX6_valueNow_15 : decode cX6_valueNow 15 = .ok (.istore 5, 2) := by decide +kernel
theorem dX6_valueNow_17 : decode cX6_valueNow 17 = .ok (.iload 5, 2) := by decide +kernel
theorem dX6_valueNow_19 : decode cX6_valueNow 19 = .ok (.bipush (-20), 2) := by decide +kernel
theorem dX6_valueNow_21 : decode cX6_valueNow 21 = .ok (.if_icmp .le 34, 3) := by decide +kernel
theorem dX6_valueNow_24 : decode cX6_valueNow 24 = .ok (.aload_n 0, 1) := by decide +kernel
theorem dX6_valueNow_25 : decode cX6_valueNow 25 = .ok (.getfield 97, 3) := by decide +kernel
theorem dX6_valueNow_28 : decode cX6_valueNow 28 = .ok (.iload_n 3, 1) := by decide +kernel
theorem dX6_valueNow_29 : decode cX6_valueNow 29 = .ok (.iload 5, 2) := by decide +kernel
theorem dX6_valueNow_31 : decode cX6_valueNow 31 = .ok (.ifCond .lt 8, 3) := by decide +kernel
theorem dX6_valueNow_34 : decode cX6_valueNow 34 = .ok (.iload 5, 2) := by decide +kernel
theorem dX6_valueNow_36 : decode cX6_valueNow 36 = .ok (.goto 12, 3) := by decide +kernel
theorem dX6_valueNow_39 : decode cX6_valueNow 39 = .ok (.aload_n 0, 1) := by decide +kernel
theorem dX6_valueNow_40 : decode cX6_valueNow 40 = .ok (.getfield 94, 3) := by decide +kernel
theorem dX6_valueNow_43 : decode cX6_valueNow 43 = .ok (.iconst (-1), 1) := by decide +kernel
theorem dX6_valueNow_44 : decode cX6_valueNow 44 = .ok (.iload 5, 2) := by decide +kernel
theorem dX6_valueNow_46 : decode cX6_valueNow 46 = .ok (.isub, 1) := by decide +kernel
theorem dX6_valueNow_47 : decode cX6_valueNow 47 = .ok (.iaload, 1) := by decide +kernel
theorem dX6_valueNow_48 : decode cX6_valueNow 48 = .ok (.iastore, 1) := by decide +kernel
theorem dX6_valueNow_49 : decode cX6_valueNow 49 = .ok (.iinc 3 1, 3) := by decide +kernel
theorem dX6_valueNow_52 : decode cX6_valueNow 52 = .ok (.goto 67, 3) := by decide +kernel
theorem dX6_valueNow_55 : decode cX6_valueNow 55 = .ok (.iload 5, 2) := by decide +kernel
theorem dX6_valueNow_57 : decode cX6_valueNow 57 = .ok (.bipush (-28), 2) := by decide +kernel
theorem dX6_valueNow_59 : decode cX6_valueNow 59 = .ok (.if_icmp .ne 30, 3) := by decide +kernel
theorem dX6_valueNow_62 : decode cX6_valueNow 62 = .ok (.aload_n 0, 1) := by decide +kernel
theorem dX6_valueNow_63 : decode cX6_valueNow 63 = .ok (.getfield 97, 3) := by decide +kernel
theorem dX6_valueNow_66 : decode cX6_valueNow 66 = .ok (.iload_n 3, 1) := by decide +kernel
theorem dX6_valueNow_67 : decode cX6_valueNow 67 = .ok (.iconst 1, 1) := by decide +kernel
theorem dX6_valueNow_68 : decode cX6_valueNow 68 = .ok (.isub, 1) := by decide +kernel
theorem dX6_valueNow_69 : decode cX6_valueNow 69 = .ok (.aload_n 0, 1) := by decide +kernel
theorem dX6_valueNow_70 : decode cX6_valueNow 70 = .ok (.getfield 97, 3) := by decide +kernel
theorem dX6_valueNow_73 : decode cX6_valueNow 73 = .ok (.iload_n 3, 1) := by decide +kernel
theorem dX6_valueNow_74 : decode cX6_valueNow 74 = .ok (.iconst 1, 1) := by decide +kernel
theorem dX6_valueNow_75 : decode cX6_valueNow 75 = .ok (.isub, 1) := by decide +kernel
theorem dX6_valueNow_76 : decode cX6_valueNow 76 = .ok (.iaload, 1) := by decide +kernel
theorem dX6_valueNow_77 : decode cX6_valueNow 77 = .ok (.ifCond .eq 7, 3) := by decide +kernel
theorem dX6_valueNow_80 : decode cX6_valueNow 80 = .ok (.iconst 0, 1) := by decide +kernel
theorem dX6_valueNow_81 : decode cX6_valueNow 81 = .ok (.goto 4, 3) := by decide +kernel
theorem dX6_valueNow_84 : decode cX6_valueNow 84 = .ok (.iconst 1, 1) := by decide +kernel
theorem dX6_valueNow_85 : decode cX6_valueNow 85 = .ok (.iastore, 1) := by decide +kernel
theorem dX6_valueNow_86 : decode cX6_valueNow 86 = .ok (.goto 33, 3) := by decide +kernel
theorem dX6_valueNow_89 : decode cX6_valueNow 89 = .ok (.iinc 3 (-1), 3) := by decide +kernel
theorem dX6_valueNow_92 : decode cX6_valueNow 92 = .ok (.aload_n 0, 1) := by decide +kernel
theorem dX6_valueNow_93 : decode cX6_valueNow 93 = .ok (.getfield 97, 3) := by decide +kernel
theorem dX6_valueNow_96 : decode cX6_valueNow 96 = .ok (.iload_n 3, 1) := by decide +kernel
theorem dX6_valueNow_97 : decode cX6_valueNow 97 = .ok (.iconst 1, 1) := by decide +kernel
theorem dX6_valueNow_98 : decode cX6_valueNow 98 = .ok (.isub, 1) := by decide +kernel
theorem dX6_valueNow_99 : decode cX6_valueNow 99 = .ok (.iload 5, 2) := by decide +kernel
theorem dX6_valueNow_101 : decode cX6_valueNow 101 = .ok (.aload_n 0, 1) := by decide +kernel
theorem dX6_valueNow_102 : decode cX6_valueNow 102 = .ok (.getfield 97, 3) := by decide +kernel
theorem dX6_valueNow_105 : decode cX6_valueNow 105 = .ok (.iload_n 3, 1) := by decide +kernel
theorem dX6_valueNow_106 : decode cX6_valueNow 106 = .ok (.iconst 1, 1) := by decide +kernel
theorem dX6_valueNow_107 : decode cX6_valueNow 107 = .ok (.isub, 1) := by decide +kernel
theorem dX6_valueNow_108 : decode cX6_valueNow 108 = .ok (.iaload, 1) := by decide +kernel
theorem dX6_valueNow_109 : decode cX6_valueNow 109 = .ok (.aload_n 0, 1) := by decide +kernel
theorem dX6_valueNow_110 : decode cX6_valueNow 110 = .ok (.getfield 97, 3) := by decide +kernel
theorem dX6_valueNow_113 : decode cX6_valueNow 113 = .ok (.iload_n 3, 1) := by decide +kernel
theorem dX6_valueNow_114 : decode cX6_valueNow 114 = .ok (.iaload, 1) := by decide +kernel
theorem dX6_valueNow_115 : decode cX6_valueNow 115 = .ok (.invokestatic 325, 3) := by decide +kernel
theorem dX6_valueNow_118 : decode cX6_valueNow 118 = .ok (.iastore, 1) := by decide +kernel
theorem dX6_valueNow_119 : decode cX6_valueNow 119 = .ok (.iinc 4 1, 3) := by decide +kernel
theorem dX6_valueNow_122 : decode cX6_valueNow 122 = .ok (.goto (-117), 3) := by decide +kernel
theorem dX6_valueNow_125 : decode cX6_valueNow 125 = .ok (.aload_n 0, 1) := by decide +kernel
theorem dX6_valueNow_126 : decode cX6_valueNow 126 = .ok (.getfield 97, 3) := by decide +kernel
theorem dX6_valueNow_129 : decode cX6_valueNow 129 = .ok (.iconst 0, 1) := by decide +kernel
theorem dX6_valueNow_130 : decode cX6_valueNow 130 = .ok (.iaload, 1) := by decide +kernel
theorem dX6_valueNow_131 : decode cX6_valueNow 131 = .ok (.ireturn, 1) := by decide +kernel
theorem dX6_heapAt_0 : decode cX6_heapAt 0 = .ok (.iconst 0, 1) := by decide +kernel
theorem dX6_heapAt_1 : decode cX6_heapAt 1 = .ok (.istore_n 2, 1) := by decide +kernel
theorem dX6_heapAt_2 : decode cX6_heapAt 2 = .ok (.iconst 0, 1) := by decide +kernel
theorem dX6_heapAt_3 : decode cX6_heapAt 3 = .ok (.istore_n 3, 1) := by decide +kernel
theorem dX6_heapAt_4 : decode cX6_heapAt 4 = .ok (.iload_n 3, 1) := by decide +kernel
theorem dX6_heapAt_5 : decode cX6_heapAt 5 = .ok (.aload_n 0, 1) := by decide +kernel
theorem dX6_heapAt_6 : decode cX6_heapAt 6 = .ok (.getfield 42, 3) := by decide +kernel
theorem dX6_heapAt_9 : decode cX6_heapAt 9 = .ok (.iconst 0, 1) := by decide +kernel
theorem dX6_heapAt_10 : decode cX6_heapAt 10 = .ok (.iaload, 1) := by decide +kernel
theorem dX6_heapAt_11 : decode cX6_heapAt 11 = .ok (.if_icmp .ge 29, 3) := by decide +kernel
theorem dX6_heapAt_14 : decode cX6_heapAt 14 = .ok (.iload_n 2, 1) := by decide +kernel
theorem dX6_heapAt_15 : decode cX6_heapAt 15 = .ok (.aload_n 0, 1) := by decide +kernel
theorem dX6_heapAt_16 : decode cX6_heapAt 16 = .ok (.getfield 82, 3) := by decide +kernel
theorem dX6_heapAt_19 : decode cX6_heapAt 19 = .ok (.iload_n 3, 1) := by decide +kernel
theorem dX6_heapAt_20 : decode cX6_heapAt 20 = .ok (.iaload, 1) := by decide +kernel
theorem dX6_heapAt_21 : decode cX6_heapAt 21 = .ok (.iload_n 1, 1) := by decide +kernel
theorem dX6_heapAt_22 : decode cX6_heapAt 22 = .ok (.if_icmp .ne 9, 3) := by decide +kernel
theorem dX6_heapAt_25 : decode cX6_heapAt 25 = .ok (.iconst 1, 1) := by decide +kernel
theorem dX6_heapAt_26 : decode cX6_heapAt 26 = .ok (.iload_n 3, 1) := by decide +kernel
theorem dX6_heapAt_27 : decode cX6_heapAt 27 = .ok (.ishl, 1) := by decide +kernel
theorem dX6_heapAt_28 : decode cX6_heapAt 28 = .ok (.goto 4, 3) := by decide +kernel
theorem dX6_heapAt_31 : decode cX6_heapAt 31 = .ok (.iconst 0, 1) := by decide +kernel
theorem dX6_heapAt_32 : decode cX6_heapAt 32 = .ok (.ior, 1) := by decide +kernel
theorem dX6_heapAt_33 : decode cX6_heapAt 33 = .ok (.istore_n 2, 1) := by decide +kernel
theorem dX6_heapAt_34 : decode cX6_heapAt 34 = .ok (.iinc 3 1, 3) := by decide +kernel
theorem dX6_heapAt_37 : decode cX6_heapAt 37 = .ok (.goto (-33), 3) := by decide +kernel
theorem dX6_heapAt_40 : decode cX6_heapAt 40 = .ok (.iload_n 2, 1) := by decide +kernel
theorem dX6_heapAt_41 : decode cX6_heapAt 41 = .ok (.ireturn, 1) := by decide +kernel
theorem dX6_fullest_0 : decode cX6_fullest 0 = .ok (.iconst 0, 1) := by decide +kernel
theorem dX6_fullest_1 : decode cX6_fullest 1 = .ok (.istore_n 1, 1) := by decide +kernel
theorem dX6_fullest_2 : decode cX6_fullest 2 = .ok (.iconst 1, 1) := by decide +kernel
theorem dX6_fullest_3 : decode cX6_fullest 3 = .ok (.istore_n 2, 1) := by decide +kernel
theorem dX6_fullest_4 : decode cX6_fullest 4 = .ok (.iload_n 2, 1) := by decide +kernel
theorem dX6_fullest_5 : decode cX6_fullest 5 = .ok (.bipush 12, 2) := by decide +kernel
theorem dX6_fullest_7 : decode cX6_fullest 7 = .ok (.if_icmp .ge 30, 3) := by decide +kernel
theorem dX6_fullest_10 : decode cX6_fullest 10 = .ok (.aload_n 0, 1) := by decide +kernel
theorem dX6_fullest_11 : decode cX6_fullest 11 = .ok (.iload_n 2, 1) := by decide +kernel
theorem dX6_fullest_12 : decode cX6_fullest 12 = .ok (.invokevirtual 329, 3) := by decide +kernel
theorem dX6_fullest_15 : decode cX6_fullest 15 = .ok (.invokestatic 332, 3) := by decide +kernel
theorem dX6_fullest_18 : decode cX6_fullest 18 = .ok (.aload_n 0, 1) := by decide +kernel
theorem dX6_fullest_19 : decode cX6_fullest 19 = .ok (.iload_n 1, 1) := by decide +kernel
theorem dX6_fullest_20 : decode cX6_fullest 20 = .ok (.invokevirtual 329, 3) := by decide +kernel
theorem dX6_fullest_23 : decode cX6_fullest 23 = .ok (.invokestatic 332, 3) := by decide +kernel
theorem dX6_fullest_26 : decode cX6_fullest 26 = .ok (.if_icmp .le 5, 3) := by decide +kernel
theorem dX6_fullest_29 : decode cX6_fullest 29 = .ok (.iload_n 2, 1) := by decide +kernel
theorem dX6_fullest_30 : decode cX6_fullest 30 = .ok (.istore_n 1, 1) := by decide +kernel
theorem dX6_fullest_31 : decode cX6_fullest 31 = .ok (.iinc 2 1, 3) := by decide +kernel
theorem dX6_fullest_34 : decode cX6_fullest 34 = .ok (.goto (-30), 3) := by decide +kernel
theorem dX6_fullest_37 : decode cX6_fullest 37 = .ok (.iload_n 1, 1) := by decide +kernel
theorem dX6_fullest_38 : decode cX6_fullest 38 = .ok (.ireturn, 1) := by decide +kernel
theorem dX6_mostNow_0 : decode cX6_mostNow 0 = .ok (.aload_n 0, 1) := by decide +kernel
theorem dX6_mostNow_1 : decode cX6_mostNow 1 = .ok (.aload_n 0, 1) := by decide +kernel
theorem dX6_mostNow_2 : decode cX6_mostNow 2 = .ok (.invokevirtual 335, 3) := by decide +kernel
theorem dX6_mostNow_5 : decode cX6_mostNow 5 = .ok (.invokevirtual 329, 3) := by decide +kernel
theorem dX6_mostNow_8 : decode cX6_mostNow 8 = .ok (.invokestatic 332, 3) := by decide +kernel
theorem dX6_mostNow_11 : decode cX6_mostNow 11 = .ok (.ireturn, 1) := by decide +kernel
theorem dX6_oddNow_0 : decode cX6_oddNow 0 = .ok (.iconst 0, 1) := by decide +kernel
theorem dX6_oddNow_1 : decode cX6_oddNow 1 = .ok (.istore_n 1, 1) := by decide +kernel
theorem dX6_oddNow_2 : decode cX6_oddNow 2 = .ok (.iconst 0, 1) := by decide +kernel
theorem dX6_oddNow_3 : decode cX6_oddNow 3 = .ok (.istore_n 2, 1) := by decide +kernel
theorem dX6_oddNow_4 : decode cX6_oddNow 4 = .ok (.iload_n 2, 1) := by decide +kernel
theorem dX6_oddNow_5 : decode cX6_oddNow 5 = .ok (.aload_n 0, 1) := by decide +kernel
theorem dX6_oddNow_6 : decode cX6_oddNow 6 = .ok (.getfield 42, 3) := by decide +kernel
theorem dX6_oddNow_9 : decode cX6_oddNow 9 = .ok (.iconst 0, 1) := by decide +kernel
theorem dX6_oddNow_10 : decode cX6_oddNow 10 = .ok (.iaload, 1) := by decide +kernel
theorem dX6_oddNow_11 : decode cX6_oddNow 11 = .ok (.if_icmp .ge 20, 3) := by decide +kernel
theorem dX6_oddNow_14 : decode cX6_oddNow 14 = .ok (.iload_n 1, 1) := by decide +kernel
theorem dX6_oddNow_15 : decode cX6_oddNow 15 = .ok (.aload_n 0, 1) := by decide +kernel
theorem dX6_oddNow_16 : decode cX6_oddNow 16 = .ok (.getfield 82, 3) := by decide +kernel
theorem dX6_oddNow_19 : decode cX6_oddNow 19 = .ok (.iload_n 2, 1) := by decide +kernel
theorem dX6_oddNow_20 : decode cX6_oddNow 20 = .ok (.iaload, 1) := by decide +kernel
theorem dX6_oddNow_21 : decode cX6_oddNow 21 = .ok (.iconst 2, 1) := by decide +kernel
theorem dX6_oddNow_22 : decode cX6_oddNow 22 = .ok (.irem, 1) := by decide +kernel
theorem dX6_oddNow_23 : decode cX6_oddNow 23 = .ok (.iadd, 1) := by decide +kernel
theorem dX6_oddNow_24 : decode cX6_oddNow 24 = .ok (.istore_n 1, 1) := by decide +kernel
theorem dX6_oddNow_25 : decode cX6_oddNow 25 = .ok (.iinc 2 1, 3) := by decide +kernel
theorem dX6_oddNow_28 : decode cX6_oddNow 28 = .ok (.goto (-24), 3) := by decide +kernel
theorem dX6_oddNow_31 : decode cX6_oddNow 31 = .ok (.iload_n 1, 1) := by decide +kernel
theorem dX6_oddNow_32 : decode cX6_oddNow 32 = .ok (.ireturn, 1) := by decide +kernel
theorem dX6_ask_0 : decode cX6_ask 0 = .ok (.aload_n 0, 1) := by decide +kernel
theorem dX6_ask_1 : decode cX6_ask 1 = .ok (.getfield 94, 3) := by decide +kernel
theorem dX6_ask_4 : decode cX6_ask 4 = .ok (.iconst 0, 1) := by decide +kernel
theorem dX6_ask_5 : decode cX6_ask 5 = .ok (.aload_n 0, 1) := by decide +kernel
theorem dX6_ask_6 : decode cX6_ask 6 = .ok (.getfield 338, 3) := by decide +kernel
theorem dX6_ask_9 : decode cX6_ask 9 = .ok (.iastore, 1) := by decide +kernel
theorem dX6_ask_10 : decode cX6_ask 10 = .ok (.aload_n 0, 1) := by decide +kernel
theorem dX6_ask_11 : decode cX6_ask 11 = .ok (.getfield 94, 3) := by decide +kernel
theorem dX6_ask_14 : decode cX6_ask 14 = .ok (.iconst 1, 1) := by decide +kernel
theorem dX6_ask_15 : decode cX6_ask 15 = .ok (.aload_n 0, 1) := by decide +kernel
theorem dX6_ask_16 : decode cX6_ask 16 = .ok (.invokevirtual 341, 3) := by decide +kernel
theorem dX6_ask_19 : decode cX6_ask 19 = .ok (.iastore, 1) := by decide +kernel
theorem dX6_ask_20 : decode cX6_ask 20 = .ok (.aload_n 0, 1) := by decide +kernel
theorem dX6_ask_21 : decode cX6_ask 21 = .ok (.getfield 94, 3) := by decide +kernel
theorem dX6_ask_24 : decode cX6_ask 24 = .ok (.iconst 2, 1) := by decide +kernel
theorem dX6_ask_25 : decode cX6_ask 25 = .ok (.aload_n 0, 1) := by decide +kernel
theorem dX6_ask_26 : decode cX6_ask 26 = .ok (.invokevirtual 335, 3) := by decide +kernel
theorem dX6_ask_29 : decode cX6_ask 29 = .ok (.iastore, 1) := by decide +kernel
theorem dX6_ask_30 : decode cX6_ask 30 = .ok (.aload_n 0, 1) := by decide +kernel
theorem dX6_ask_31 : decode cX6_ask 31 = .ok (.getfield 94, 3) := by decide +kernel
theorem dX6_ask_34 : decode cX6_ask 34 = .ok (.iconst 3, 1) := by decide +kernel
theorem dX6_ask_35 : decode cX6_ask 35 = .ok (.aload_n 0, 1) := by decide +kernel
theorem dX6_ask_36 : decode cX6_ask 36 = .ok (.invokevirtual 344, 3) := by decide +kernel
theorem dX6_ask_39 : decode cX6_ask 39 = .ok (.iastore, 1) := by decide +kernel
theorem dX6_ask_40 : decode cX6_ask 40 = .ok (.aload_n 0, 1) := by decide +kernel
theorem dX6_ask_41 : decode cX6_ask 41 = .ok (.getfield 94, 3) := by decide +kernel
theorem dX6_ask_44 : decode cX6_ask 44 = .ok (.iconst 4, 1) := by decide +kernel
theorem dX6_ask_45 : decode cX6_ask 45 = .ok (.aload_n 0, 1) := by decide +kernel
theorem dX6_ask_46 : decode cX6_ask 46 = .ok (.getfield 313, 3) := by decide +kernel
theorem dX6_ask_49 : decode cX6_ask 49 = .ok (.iastore, 1) := by decide +kernel
theorem dX6_ask_50 : decode cX6_ask 50 = .ok (.return_, 1) := by decide +kernel
theorem dX6_drink_0 : decode cX6_drink 0 = .ok (.aload_n 0, 1) := by decide +kernel
theorem dX6_drink_1 : decode cX6_drink 1 = .ok (.getfield 85, 3) := by decide +kernel
theorem dX6_drink_4 : decode cX6_drink 4 = .ok (.iload_n 1, 1) := by decide +kernel
theorem dX6_drink_5 : decode cX6_drink 5 = .ok (.iaload, 1) := by decide +kernel
theorem dX6_drink_6 : decode cX6_drink 6 = .ok (.istore_n 2, 1) := by decide +kernel
theorem dX6_drink_7 : decode cX6_drink 7 = .ok (.aload_n 0, 1) := by decide +kernel
theorem dX6_drink_8 : decode cX6_drink 8 = .ok (.getfield 73, 3) := by decide +kernel
theorem dX6_drink_11 : decode cX6_drink 11 = .ok (.iload_n 2, 1) := by decide +kernel
theorem dX6_drink_12 : decode cX6_drink 12 = .ok (.iaload, 1) := by decide +kernel
theorem dX6_drink_13 : decode cX6_drink 13 = .ok (.istore_n 3, 1) := by decide +kernel
theorem dX6_drink_14 : decode cX6_drink 14 = .ok (.aload_n 0, 1) := by decide +kernel
theorem dX6_drink_15 : decode cX6_drink 15 = .ok (.getfield 42, 3) := by decide +kernel
theorem dX6_drink_18 : decode cX6_drink 18 = .ok (.iconst 3, 1) := by decide +kernel
theorem dX6_drink_19 : decode cX6_drink 19 = .ok (.iaload, 1) := by decide +kernel
theorem dX6_drink_20 : decode cX6_drink 20 = .ok (.ifCond .le 42, 3) := by decide +kernel
theorem dX6_drink_23 : decode cX6_drink 23 = .ok (.aload_n 0, 1) := by decide +kernel
theorem dX6_drink_24 : decode cX6_drink 24 = .ok (.invokevirtual 347, 3) := by decide +kernel
theorem dX6_drink_27 : decode cX6_drink 27 = .ok (.aload_n 0, 1) := by decide +kernel
theorem dX6_drink_28 : decode cX6_drink 28 = .ok (.getfield 94, 3) := by decide +kernel
theorem dX6_drink_31 : decode cX6_drink 31 = .ok (.iconst 5, 1) := by decide +kernel
theorem dX6_drink_32 : decode cX6_drink 32 = .ok (.aload_n 0, 1) := by decide +kernel
theorem dX6_drink_33 : decode cX6_drink 33 = .ok (.getfield 73, 3) := by decide +kernel
theorem dX6_drink_36 : decode cX6_drink 36 = .ok (.iload_n 2, 1) := by decide +kernel
theorem dX6_drink_37 : decode cX6_drink 37 = .ok (.iaload, 1) := by decide +kernel
theorem dX6_drink_38 : decode cX6_drink 38 = .ok (.iastore, 1) := by decide +kernel
theorem dX6_drink_39 : decode cX6_drink 39 = .ok (.aload_n 0, 1) := by decide +kernel
theorem dX6_drink_40 : decode cX6_drink 40 = .ok (.getfield 94, 3) := by decide +kernel
theorem dX6_drink_43 : decode cX6_drink 43 = .ok (.bipush 6, 2) := by decide +kernel
theorem dX6_drink_45 : decode cX6_drink 45 = .ok (.iload_n 1, 1) := by decide +kernel
theorem dX6_drink_46 : decode cX6_drink 46 = .ok (.iastore, 1) := by decide +kernel
theorem dX6_drink_47 : decode cX6_drink 47 = .ok (.aload_n 0, 1) := by decide +kernel
theorem dX6_drink_48 : decode cX6_drink 48 = .ok (.aload_n 0, 1) := by decide +kernel
theorem dX6_drink_49 : decode cX6_drink 49 = .ok (.getfield 64, 3) := by decide +kernel
theorem dX6_drink_52 : decode cX6_drink 52 = .ok (.aload_n 0, 1) := by decide +kernel
theorem dX6_drink_53 : decode cX6_drink 53 = .ok (.getfield 42, 3) := by decide +kernel
theorem dX6_drink_56 : decode cX6_drink 56 = .ok (.iconst 3, 1) := by decide +kernel
theorem dX6_drink_57 : decode cX6_drink 57 = .ok (.iaload, 1) := by decide +kernel
theorem dX6_drink_58 : decode cX6_drink 58 = .ok (.invokevirtual 350, 3) := by decide +kernel
theorem dX6_drink_61 : decode cX6_drink 61 = .ok (.istore_n 3, 1) := by decide +kernel
theorem dX6_drink_62 : decode cX6_drink 62 = .ok (.aload_n 0, 1) := by decide +kernel
theorem dX6_drink_63 : decode cX6_drink 63 = .ok (.getfield 100, 3) := by decide +kernel
theorem dX6_drink_66 : decode cX6_drink 66 = .ok (.iload_n 2, 1) := by decide +kernel
theorem dX6_drink_67 : decode cX6_drink 67 = .ok (.iconst 0, 1) := by decide +kernel
theorem dX6_drink_68 : decode cX6_drink 68 = .ok (.aload_n 0, 1) := by decide +kernel
theorem dX6_drink_69 : decode cX6_drink 69 = .ok (.getfield 338, 3) := by decide +kernel
theorem dX6_drink_72 : decode cX6_drink 72 = .ok (.iload_n 3, 1) := by decide +kernel
theorem dX6_drink_73 : decode cX6_drink 73 = .ok (.invokestatic 198, 3) := by decide +kernel
theorem dX6_drink_76 : decode cX6_drink 76 = .ok (.invokestatic 354, 3) := by decide +kernel
theorem dX6_drink_79 : decode cX6_drink 79 = .ok (.iastore, 1) := by decide +kernel
theorem dX6_drink_80 : decode cX6_drink 80 = .ok (.aload_n 0, 1) := by decide +kernel
theorem dX6_drink_81 : decode cX6_drink 81 = .ok (.dup, 1) := by decide +kernel
theorem dX6_drink_82 : decode cX6_drink 82 = .ok (.getfield 338, 3) := by decide +kernel
theorem dX6_drink_85 : decode cX6_drink 85 = .ok (.aload_n 0, 1) := by decide +kernel
theorem dX6_drink_86 : decode cX6_drink 86 = .ok (.getfield 100, 3) := by decide +kernel
theorem dX6_drink_89 : decode cX6_drink 89 = .ok (.iload_n 2, 1) := by decide +kernel
theorem dX6_drink_90 : decode cX6_drink 90 = .ok (.iaload, 1) := by decide +kernel
theorem dX6_drink_91 : decode cX6_drink 91 = .ok (.isub, 1) := by decide +kernel
theorem dX6_drink_92 : decode cX6_drink 92 = .ok (.putfield 338, 3) := by decide +kernel
theorem dX6_drink_95 : decode cX6_drink 95 = .ok (.return_, 1) := by decide +kernel
theorem dX6_stirred_0 : decode cX6_stirred 0 = .ok (.aload_n 0, 1) := by decide +kernel
theorem dX6_stirred_1 : decode cX6_stirred 1 = .ok (.getfield 82, 3) := by decide +kernel
theorem dX6_stirred_4 : decode cX6_stirred 4 = .ok (.iload_n 2, 1) := by decide +kernel
theorem dX6_stirred_5 : decode cX6_stirred 5 = .ok (.iaload, 1) := by decide +kernel
theorem dX6_stirred_6 : decode cX6_stirred 6 = .ok (.aload_n 0, 1) := by decide +kernel
theorem dX6_stirred_7 : decode cX6_stirred 7 = .ok (.getfield 88, 3) := by decide +kernel
theorem dX6_stirred_10 : decode cX6_stirred 10 = .ok (.iload_n 1, 1) := by decide +kernel
theorem dX6_stirred_11 : decode cX6_stirred 11 = .ok (.iaload, 1) := by decide +kernel
theorem dX6_stirred_12 : decode cX6_stirred 12 = .ok (.bipush 6, 2) := by decide +kernel
theorem dX6_stirred_14 : decode cX6_stirred 14 = .ok (.isub, 1) := by decide +kernel
theorem dX6_stirred_15 : decode cX6_stirred 15 = .ok (.iload_n 3, 1) := by decide +kernel
theorem dX6_stirred_16 : decode cX6_stirred 16 = .ok (.bipush 10, 2) := by decide +kernel
theorem dX6_stirred_18 : decode cX6_stirred 18 = .ok (.idiv, 1) := by decide +kernel
theorem dX6_stirred_19 : decode cX6_stirred 19 = .ok (.imul, 1) := by decide +kernel
theorem dX6_stirred_20 : decode cX6_stirred 20 = .ok (.aload_n 0, 1) := by decide +kernel
theorem dX6_stirred_21 : decode cX6_stirred 21 = .ok (.getfield 49, 3) := by decide +kernel
theorem dX6_stirred_24 : decode cX6_stirred 24 = .ok (.iload_n 2, 1) := by decide +kernel
theorem dX6_stirred_25 : decode cX6_stirred 25 = .ok (.iaload, 1) := by decide +kernel
theorem dX6_stirred_26 : decode cX6_stirred 26 = .ok (.idiv, 1) := by decide +kernel
theorem dX6_stirred_27 : decode cX6_stirred 27 = .ok (.iadd, 1) := by decide +kernel
theorem dX6_stirred_28 : decode cX6_stirred 28 = .ok (.bipush 12, 2) := by decide +kernel
theorem dX6_stirred_30 : decode cX6_stirred 30 = .ok (.invokestatic 357, 3) := by decide +kernel
theorem dX6_stirred_33 : decode cX6_stirred 33 = .ok (.ireturn, 1) := by decide +kernel
theorem dX6_blow_0 : decode cX6_blow 0 = .ok (.iconst 0, 1) := by decide +kernel
theorem dX6_blow_1 : decode cX6_blow 1 = .ok (.istore_n 1, 1) := by decide +kernel
theorem dX6_blow_2 : decode cX6_blow 2 = .ok (.iload_n 1, 1) := by decide +kernel
theorem dX6_blow_3 : decode cX6_blow 3 = .ok (.aload_n 0, 1) := by decide +kernel
theorem dX6_blow_4 : decode cX6_blow 4 = .ok (.getfield 42, 3) := by decide +kernel
theorem dX6_blow_7 : decode cX6_blow 7 = .ok (.iconst 0, 1) := by decide +kernel
theorem dX6_blow_8 : decode cX6_blow 8 = .ok (.iaload, 1) := by decide +kernel
theorem dX6_blow_9 : decode cX6_blow 9 = .ok (.if_icmp .ge 47, 3) := by decide +kernel
theorem dX6_blow_12 : decode cX6_blow 12 = .ok (.aload_n 0, 1) := by decide +kernel
theorem dX6_blow_13 : decode cX6_blow 13 = .ok (.aload_n 0, 1) := by decide +kernel
theorem dX6_blow_14 : decode cX6_blow 14 = .ok (.getfield 82, 3) := by decide +kernel
theorem dX6_blow_17 : decode cX6_blow 17 = .ok (.iload_n 1, 1) := by decide +kernel
theorem dX6_blow_18 : decode cX6_blow 18 = .ok (.iaload, 1) := by decide +kernel
theorem dX6_blow_19 : decode cX6_blow 19 = .ok (.invokevirtual 329, 3) := by decide +kernel
theorem dX6_blow_22 : decode cX6_blow 22 = .ok (.iconst 1, 1) := by decide +kernel
theorem dX6_blow_23 : decode cX6_blow 23 = .ok (.iload_n 1, 1) := by decide +kernel
theorem dX6_blow_24 : decode cX6_blow 24 = .ok (.ishl, 1) := by decide +kernel
theorem dX6_blow_25 : decode cX6_blow 25 = .ok (.iconst 1, 1) := by decide +kernel
theorem dX6_blow_26 : decode cX6_blow 26 = .ok (.isub, 1) := by decide +kernel
theorem dX6_blow_27 : decode cX6_blow 27 = .ok (.iand, 1) := by decide +kernel
theorem dX6_blow_28 : decode cX6_blow 28 = .ok (.ifCond .eq 22, 3) := by decide +kernel
theorem dX6_blow_31 : decode cX6_blow 31 = .ok (.aload_n 0, 1) := by decide +kernel
theorem dX6_blow_32 : decode cX6_blow 32 = .ok (.getfield 82, 3) := by decide +kernel
theorem dX6_blow_35 : decode cX6_blow 35 = .ok (.iload_n 1, 1) := by decide +kernel
theorem dX6_blow_36 : decode cX6_blow 36 = .ok (.aload_n 0, 1) := by decide +kernel
theorem dX6_blow_37 : decode cX6_blow 37 = .ok (.getfield 82, 3) := by decide +kernel
theorem dX6_blow_40 : decode cX6_blow 40 = .ok (.iload_n 1, 1) := by decide +kernel
theorem dX6_blow_41 : decode cX6_blow 41 = .ok (.iaload, 1) := by decide +kernel
theorem dX6_blow_42 : decode cX6_blow 42 = .ok (.iconst 1, 1) := by decide +kernel
theorem dX6_blow_43 : decode cX6_blow 43 = .ok (.iadd, 1) := by decide +kernel
theorem dX6_blow_44 : decode cX6_blow 44 = .ok (.bipush 12, 2) := by decide +kernel
theorem dX6_blow_46 : decode cX6_blow 46 = .ok (.invokestatic 357, 3) := by decide +kernel
theorem dX6_blow_49 : decode cX6_blow 49 = .ok (.iastore, 1) := by decide +kernel
theorem dX6_blow_50 : decode cX6_blow 50 = .ok (.iinc 1 1, 3) := by decide +kernel
theorem dX6_blow_53 : decode cX6_blow 53 = .ok (.goto (-51), 3) := by decide +kernel
theorem dX6_blow_56 : decode cX6_blow 56 = .ok (.return_, 1) := by decide +kernel
theorem dX6_aCase_0 : decode cX6_aCase 0 = .ok (.aload_n 0, 1) := by decide +kernel
theorem dX6_aCase_1 : decode cX6_aCase 1 = .ok (.aload_n 0, 1) := by decide +kernel
theorem dX6_aCase_2 : decode cX6_aCase 2 = .ok (.getfield 151, 3) := by decide +kernel
theorem dX6_aCase_5 : decode cX6_aCase 5 = .ok (.putfield 338, 3) := by decide +kernel
theorem dX6_aCase_8 : decode cX6_aCase 8 = .ok (.iconst 0, 1) := by decide +kernel
theorem dX6_aCase_9 : decode cX6_aCase 9 = .ok (.istore_n 1, 1) := by decide +kernel
theorem dX6_aCase_10 : decode cX6_aCase 10 = .ok (.iload_n 1, 1) := by decide +kernel
theorem dX6_aCase_11 : decode cX6_aCase 11 = .ok (.bipush 8, 2) := by decide +kernel
theorem dX6_aCase_13 : decode cX6_aCase 13 = .ok (.if_icmp .ge 16, 3) := by decide +kernel
theorem dX6_aCase_16 : decode cX6_aCase 16 = .ok (.aload_n 0, 1) := by decide +kernel
theorem dX6_aCase_17 : decode cX6_aCase 17 = .ok (.getfield 100, 3) := by decide +kernel
theorem dX6_aCase_20 : decode cX6_aCase 20 = .ok (.iload_n 1, 1) := by decide +kernel
theorem dX6_aCase_21 : decode cX6_aCase 21 = .ok (.iconst 0, 1) := by decide +kernel
theorem dX6_aCase_22 : decode cX6_aCase 22 = .ok (.iastore, 1) := by decide +kernel
theorem dX6_aCase_23 : decode cX6_aCase 23 = .ok (.iinc 1 1, 3) := by decide +kernel
theorem dX6_aCase_26 : decode cX6_aCase 26 = .ok (.goto (-16), 3) := by decide +kernel
theorem dX6_aCase_29 : decode cX6_aCase 29 = .ok (.iconst 0, 1) := by decide +kernel
theorem dX6_aCase_30 : decode cX6_aCase 30 = .ok (.istore_n 1, 1) := by decide +kernel
theorem dX6_aCase_31 : decode cX6_aCase 31 = .ok (.iload_n 1, 1) := by decide +kernel
theorem dX6_aCase_32 : decode cX6_aCase 32 = .ok (.aload_n 0, 1) := by decide +kernel
theorem dX6_aCase_33 : decode cX6_aCase 33 = .ok (.getfield 42, 3) := by decide +kernel
theorem dX6_aCase_36 : decode cX6_aCase 36 = .ok (.iconst 1, 1) := by decide +kernel
theorem dX6_aCase_37 : decode cX6_aCase 37 = .ok (.iaload, 1) := by decide +kernel
theorem dX6_aCase_38 : decode cX6_aCase 38 = .ok (.if_icmp .ge 81, 3) := by decide +kernel
theorem dX6_aCase_41 : decode cX6_aCase 41 = .ok (.aload_n 0, 1) := by decide +kernel
theorem dX6_aCase_42 : decode cX6_aCase 42 = .ok (.getfield 85, 3) := by decide +kernel
theorem dX6_aCase_45 : decode cX6_aCase 45 = .ok (.iload_n 1, 1) := by decide +kernel
theorem dX6_aCase_46 : decode cX6_aCase 46 = .ok (.iaload, 1) := by decide +kernel
theorem dX6_aCase_47 : decode cX6_aCase 47 = .ok (.istore_n 2, 1) := by decide +kernel
theorem dX6_aCase_48 : decode cX6_aCase 48 = .ok (.iload_n 1, 1) := by decide +kernel
theorem dX6_aCase_49 : decode cX6_aCase 49 = .ok (.aload_n 0, 1) := by decide +kernel
theorem dX6_aCase_50 : decode cX6_aCase 50 = .ok (.getfield 42, 3) := by decide +kernel
theorem dX6_aCase_53 : decode cX6_aCase 53 = .ok (.iconst 1, 1) := by decide +kernel
theorem dX6_aCase_54 : decode cX6_aCase 54 = .ok (.iaload, 1) := by decide +kernel
theorem dX6_aCase_55 : decode cX6_aCase 55 = .ok (.iconst 1, 1) := by decide +kernel
theorem dX6_aCase_56 : decode cX6_aCase 56 = .ok (.isub, 1) := by decide +kernel
theorem dX6_aCase_57 : decode cX6_aCase 57 = .ok (.if_icmp .ge 8, 3) := by decide +kernel
theorem dX6_aCase_60 : decode cX6_aCase 60 = .ok (.aload_n 0, 1) := by decide +kernel
theorem dX6_aCase_61 : decode cX6_aCase 61 = .ok (.iload_n 1, 1) := by decide +kernel
theorem dX6_aCase_62 : decode cX6_aCase 62 = .ok (.invokevirtual 360, 3) := by decide +kernel
theorem dX6_aCase_65 : decode cX6_aCase 65 = .ok (.iconst 0, 1) := by decide +kernel
theorem dX6_aCase_66 : decode cX6_aCase 66 = .ok (.istore_n 3, 1) := by decide +kernel
theorem dX6_aCase_67 : decode cX6_aCase 67 = .ok (.iload_n 3, 1) := by decide +kernel
theorem dX6_aCase_68 : decode cX6_aCase 68 = .ok (.aload_n 0, 1) := by decide +kernel
theorem dX6_aCase_69 : decode cX6_aCase 69 = .ok (.getfield 42, 3) := by decide +kernel
theorem dX6_aCase_72 : decode cX6_aCase 72 = .ok (.iconst 0, 1) := by decide +kernel
theorem dX6_aCase_73 : decode cX6_aCase 73 = .ok (.iaload, 1) := by decide +kernel
theorem dX6_aCase_74 : decode cX6_aCase 74 = .ok (.if_icmp .ge 25, 3) := by decide +kernel
theorem dX6_aCase_77 : decode cX6_aCase 77 = .ok (.aload_n 0, 1) := by decide +kernel
theorem dX6_aCase_78 : decode cX6_aCase 78 = .ok (.getfield 82, 3) := by decide +kernel
theorem dX6_aCase_81 : decode cX6_aCase 81 = .ok (.iload_n 3, 1) := by decide +kernel
theorem dX6_aCase_82 : decode cX6_aCase 82 = .ok (.aload_n 0, 1) := by decide +kernel
theorem dX6_aCase_83 : decode cX6_aCase 83 = .ok (.iload_n 2, 1) := by decide +kernel
theorem dX6_aCase_84 : decode cX6_aCase 84 = .ok (.iload_n 3, 1) := by decide +kernel
theorem dX6_aCase_85 : decode cX6_aCase 85 = .ok (.aload_n 0, 1) := by decide +kernel
theorem dX6_aCase_86 : decode cX6_aCase 86 = .ok (.getfield 338, 3) := by decide +kernel
theorem dX6_aCase_89 : decode cX6_aCase 89 = .ok (.invokevirtual 363, 3) := by decide +kernel
theorem dX6_aCase_92 : decode cX6_aCase 92 = .ok (.iastore, 1) := by decide +kernel
theorem dX6_aCase_93 : decode cX6_aCase 93 = .ok (.iinc 3 1, 3) := by decide +kernel
theorem dX6_aCase_96 : decode cX6_aCase 96 = .ok (.goto (-29), 3) := by decide +kernel
theorem dX6_aCase_99 : decode cX6_aCase 99 = .ok (.aload_n 0, 1) := by decide +kernel
theorem dX6_aCase_100 : decode cX6_aCase 100 = .ok (.getfield 52, 3) := by decide +kernel
theorem dX6_aCase_103 : decode cX6_aCase 103 = .ok (.iload_n 2, 1) := by decide +kernel
theorem dX6_aCase_104 : decode cX6_aCase 104 = .ok (.iaload, 1) := by decide +kernel
theorem dX6_aCase_105 : decode cX6_aCase 105 = .ok (.iconst 1, 1) := by decide +kernel
theorem dX6_aCase_106 : decode cX6_aCase 106 = .ok (.if_icmp .ne 7, 3) := by decide +kernel
theorem dX6_aCase_109 : decode cX6_aCase 109 = .ok (.aload_n 0, 1) := by decide +kernel
theorem dX6_aCase_110 : decode cX6_aCase 110 = .ok (.invokevirtual 366, 3) := by decide +kernel
theorem dX6_aCase_113 : decode cX6_aCase 113 = .ok (.iinc 1 1, 3) := by decide +kernel
theorem dX6_aCase_116 : decode cX6_aCase 116 = .ok (.goto (-85), 3) := by decide +kernel
theorem dX6_aCase_119 : decode cX6_aCase 119 = .ok (.aload_n 0, 1) := by decide +kernel
theorem dX6_aCase_120 : decode cX6_aCase 120 = .ok (.invokevirtual 347, 3) := by decide +kernel
theorem dX6_aCase_123 : decode cX6_aCase 123 = .ok (.aload_n 0, 1) := by decide +kernel
theorem dX6_aCase_124 : decode cX6_aCase 124 = .ok (.getfield 42, 3) := by decide +kernel
theorem dX6_aCase_127 : decode cX6_aCase 127 = .ok (.iconst 4, 1) := by decide +kernel
theorem dX6_aCase_128 : decode cX6_aCase 128 = .ok (.iaload, 1) := by decide +kernel
theorem dX6_aCase_129 : decode cX6_aCase 129 = .ok (.ifCond .ne 19, 3) := by decide +kernel
theorem dX6_aCase_132 : decode cX6_aCase 132 = .ok (.aload_n 0, 1) := by decide +kernel
theorem dX6_aCase_133 : decode cX6_aCase 133 = .ok (.getfield 94, 3) := by decide +kernel
theorem dX6_aCase_136 : decode cX6_aCase 136 = .ok (.iconst 1, 1) := by decide +kernel
theorem dX6_aCase_137 : decode cX6_aCase 137 = .ok (.iaload, 1) := by decide +kernel
theorem dX6_aCase_138 : decode cX6_aCase 138 = .ok (.aload_n 0, 1) := by decide +kernel
theorem dX6_aCase_139 : decode cX6_aCase 139 = .ok (.getfield 94, 3) := by decide +kernel
theorem dX6_aCase_142 : decode cX6_aCase 142 = .ok (.iconst 2, 1) := by decide +kernel
theorem dX6_aCase_143 : decode cX6_aCase 143 = .ok (.iaload, 1) := by decide +kernel
theorem dX6_aCase_144 : decode cX6_aCase 144 = .ok (.iadd, 1) := by decide +kernel
theorem dX6_aCase_145 : decode cX6_aCase 145 = .ok (.goto 17, 3) := by decide +kernel
theorem dX6_aCase_148 : decode cX6_aCase 148 = .ok (.aload_n 0, 1) := by decide +kernel
theorem dX6_aCase_149 : decode cX6_aCase 149 = .ok (.aload_n 0, 1) := by decide +kernel
theorem dX6_aCase_150 : decode cX6_aCase 150 = .ok (.getfield 67, 3) := by decide +kernel
theorem dX6_aCase_153 : decode cX6_aCase 153 = .ok (.aload_n 0, 1) := by decide +kernel
theorem dX6_aCase_154 : decode cX6_aCase 154 = .ok (.getfield 42, 3) := by decide +kernel
theorem dX6_aCase_157 : decode cX6_aCase 157 = .ok (.iconst 4, 1) := by decide +kernel
theorem dX6_aCase_158 : decode cX6_aCase 158 = .ok (.iaload, 1) := by decide +kernel
theorem dX6_aCase_159 : decode cX6_aCase 159 = .ok (.invokevirtual 350, 3) := by decide +kernel
theorem dX6_aCase_162 : decode cX6_aCase 162 = .ok (.istore_n 1, 1) := by decide +kernel
theorem dX6_aCase_163 : decode cX6_aCase 163 = .ok (.aload_n 0, 1) := by decide +kernel
theorem dX6_aCase_164 : decode cX6_aCase 164 = .ok (.iload_n 1, 1) := by decide +kernel
theorem dX6_aCase_165 : decode cX6_aCase 165 = .ok (.iconst 5, 1) := by decide +kernel
theorem dX6_aCase_166 : decode cX6_aCase 166 = .ok (.invokestatic 357, 3) := by decide +kernel
theorem dX6_aCase_169 : decode cX6_aCase 169 = .ok (.putfield 154, 3) := by decide +kernel
theorem dX6_aCase_172 : decode cX6_aCase 172 = .ok (.aload_n 0, 1) := by decide +kernel
theorem dX6_aCase_173 : decode cX6_aCase 173 = .ok (.dup, 1) := by decide +kernel
theorem dX6_aCase_174 : decode cX6_aCase 174 = .ok (.getfield 313, 3) := by decide +kernel
theorem dX6_aCase_177 : decode cX6_aCase 177 = .ok (.iconst 1, 1) := by decide +kernel
theorem dX6_aCase_178 : decode cX6_aCase 178 = .ok (.iadd, 1) := by decide +kernel
theorem dX6_aCase_179 : decode cX6_aCase 179 = .ok (.putfield 313, 3) := by decide +kernel
theorem dX6_aCase_182 : decode cX6_aCase 182 = .ok (.return_, 1) := by decide +kernel
theorem dX6_goOn_0 : decode cX6_goOn 0 = .ok (.iconst 0, 1) := by decide +kernel
theorem dX6_goOn_1 : decode cX6_goOn 1 = .ok (.istore_n 2, 1) := by decide +kernel
theorem dX6_goOn_2 : decode cX6_goOn 2 = .ok (.iload_n 2, 1) := by decide +kernel
theorem dX6_goOn_3 : decode cX6_goOn 3 = .ok (.iload_n 1, 1) := by decide +kernel
theorem dX6_goOn_4 : decode cX6_goOn 4 = .ok (.if_icmp .ge 13, 3) := by decide +kernel
theorem dX6_goOn_7 : decode cX6_goOn 7 = .ok (.aload_n 0, 1) := by decide +kernel
theorem dX6_goOn_8 : decode cX6_goOn 8 = .ok (.invokevirtual 369, 3) := by decide +kernel
theorem dX6_goOn_11 : decode cX6_goOn 11 = .ok (.iinc 2 1, 3) := by decide +kernel
theorem dX6_goOn_14 : decode cX6_goOn 14 = .ok (.goto (-12), 3) := by decide +kernel
theorem dX6_goOn_17 : decode cX6_goOn 17 = .ok (.return_, 1) := by decide +kernel
theorem dX6_nextVerdict_0 : decode cX6_nextVerdict 0 = .ok (.aload_n 0, 1) := by decide +kernel
theorem dX6_nextVerdict_1 : decode cX6_nextVerdict 1 = .ok (.aload_n 0, 1) := by decide +kernel
theorem dX6_nextVerdict_2 : decode cX6_nextVerdict 2 = .ok (.getfield 103, 3) := by decide +kernel
theorem dX6_nextVerdict_5 : decode cX6_nextVerdict 5 = .ok (.iconst 0, 1) := by decide +kernel
theorem dX6_nextVerdict_6 : decode cX6_nextVerdict 6 = .ok (.invokevirtual 372, 3) := by decide +kernel
theorem dX6_nextVerdict_9 : decode cX6_nextVerdict 9 = .ok (.aload_n 0, 1) := by decide +kernel
theorem dX6_nextVerdict_10 : decode cX6_nextVerdict 10 = .ok (.invokevirtual 369, 3) := by decide +kernel
theorem dX6_nextVerdict_13 : decode cX6_nextVerdict 13 = .ok (.aload_n 0, 1) := by decide +kernel
theorem dX6_nextVerdict_14 : decode cX6_nextVerdict 14 = .ok (.getfield 154, 3) := by decide +kernel
theorem dX6_nextVerdict_17 : decode cX6_nextVerdict 17 = .ok (.istore_n 1, 1) := by decide +kernel
theorem dX6_nextVerdict_18 : decode cX6_nextVerdict 18 = .ok (.aload_n 0, 1) := by decide +kernel
theorem dX6_nextVerdict_19 : decode cX6_nextVerdict 19 = .ok (.aload_n 0, 1) := by decide +kernel
theorem dX6_nextVerdict_20 : decode cX6_nextVerdict 20 = .ok (.getfield 103, 3) := by decide +kernel
theorem dX6_nextVerdict_23 : decode cX6_nextVerdict 23 = .ok (.iconst 0, 1) := by decide +kernel
theorem dX6_nextVerdict_24 : decode cX6_nextVerdict 24 = .ok (.invokevirtual 376, 3) := by decide +kernel
theorem dX6_nextVerdict_27 : decode cX6_nextVerdict 27 = .ok (.iload_n 1, 1) := by decide +kernel
theorem dX6_nextVerdict_28 : decode cX6_nextVerdict 28 = .ok (.ireturn, 1) := by decide +kernel
theorem dX6_gapNow_0 : decode cX6_gapNow 0 = .ok (.iconst 0, 1) := by decide +kernel
theorem dX6_gapNow_1 : decode cX6_gapNow 1 = .ok (.istore_n 1, 1) := by decide +kernel
theorem dX6_gapNow_2 : decode cX6_gapNow 2 = .ok (.iconst 0, 1) := by decide +kernel
theorem dX6_gapNow_3 : decode cX6_gapNow 3 = .ok (.istore_n 2, 1) := by decide +kernel
theorem dX6_gapNow_4 : decode cX6_gapNow 4 = .ok (.iload_n 2, 1) := by decide +kernel
theorem dX6_gapNow_5 : decode cX6_gapNow 5 = .ok (.bipush 12, 2) := by decide +kernel
theorem dX6_gapNow_7 : decode cX6_gapNow 7 = .ok (.if_icmp .ge 42, 3) := by decide +kernel
theorem dX6_gapNow_10 : decode cX6_gapNow 10 = .ok (.iconst 0, 1) := by decide +kernel
theorem dX6_gapNow_11 : decode cX6_gapNow 11 = .ok (.istore_n 3, 1) := by decide +kernel
theorem dX6_gapNow_12 : decode cX6_gapNow 12 = .ok (.iload_n 3, 1) := by decide +kernel
theorem dX6_gapNow_13 : decode cX6_gapNow 13 = .ok (.bipush 12, 2) := by decide +kernel
theorem dX6_gapNow_15 : decode cX6_gapNow 15 = .ok (.if_icmp .ge 22, 3) := by decide +kernel
theorem dX6_gapNow_18 : decode cX6_gapNow 18 = .ok (.aload_n 0, 1) := by decide +kernel
theorem dX6_gapNow_19 : decode cX6_gapNow 19 = .ok (.iload_n 2, 1) := by decide +kernel
theorem dX6_gapNow_20 : decode cX6_gapNow 20 = .ok (.iload_n 3, 1) := by decide +kernel
theorem dX6_gapNow_21 : decode cX6_gapNow 21 = .ok (.iadd, 1) := by decide +kernel
theorem dX6_gapNow_22 : decode cX6_gapNow 22 = .ok (.bipush 12, 2) := by decide +kernel
theorem dX6_gapNow_24 : decode cX6_gapNow 24 = .ok (.irem, 1) := by decide +kernel
theorem dX6_gapNow_25 : decode cX6_gapNow 25 = .ok (.invokevirtual 329, 3) := by decide +kernel
theorem dX6_gapNow_28 : decode cX6_gapNow 28 = .ok (.ifCond .ne 9, 3) := by decide +kernel
theorem dX6_gapNow_31 : decode cX6_gapNow 31 = .ok (.iinc 3 1, 3) := by decide +kernel
theorem dX6_gapNow_34 : decode cX6_gapNow 34 = .ok (.goto (-22), 3) := by decide +kernel
theorem dX6_gapNow_37 : decode cX6_gapNow 37 = .ok (.iload_n 1, 1) := by decide +kernel
theorem dX6_gapNow_38 : decode cX6_gapNow 38 = .ok (.iload_n 3, 1) := by decide +kernel
theorem dX6_gapNow_39 : decode cX6_gapNow 39 = .ok (.invokestatic 354, 3) := by decide +kernel
theorem dX6_gapNow_42 : decode cX6_gapNow 42 = .ok (.istore_n 1, 1) := by decide +kernel
theorem dX6_gapNow_43 : decode cX6_gapNow 43 = .ok (.iinc 2 1, 3) := by decide +kernel
theorem dX6_gapNow_46 : decode cX6_gapNow 46 = .ok (.goto (-42), 3) := by decide +kernel
theorem dX6_gapNow_49 : decode cX6_gapNow 49 = .ok (.iload_n 1, 1) := by decide +kernel
theorem dX6_gapNow_50 : decode cX6_gapNow 50 = .ok (.ireturn, 1) := by decide +kernel
theorem dX6_count_0 : decode cX6_count 0 = .ok (.aload_n 0, 1) := by decide +kernel
theorem dX6_count_1 : decode cX6_count 1 = .ok (.iconst 0, 1) := by decide +kernel
theorem dX6_count_2 : decode cX6_count 2 = .ok (.putfield 157, 3) := by decide +kernel
theorem dX6_count_5 : decode cX6_count 5 = .ok (.iload_n 1, 1) := by decide +kernel
theorem dX6_count_6 : decode cX6_count 6 = .ok (.tableswitch 141 0 14 #[74, 74, 81, 86, 91, 96, 101, 106, 111, 116, 121, 126, 131, 131, 131], 74) := by decide +kernel
theorem dX6_count_80 : decode cX6_count 80 = .ok (.aload_n 0, 1) := by decide +kernel
theorem dX6_count_81 : decode cX6_count 81 = .ok (.getfield 42, 3) := by decide +kernel
theorem dX6_count_84 : decode cX6_count 84 = .ok (.iload_n 1, 1) := by decide +kernel
theorem dX6_count_85 : decode cX6_count 85 = .ok (.iaload, 1) := by decide +kernel
theorem dX6_count_86 : decode cX6_count 86 = .ok (.ireturn, 1) := by decide +kernel
theorem dX6_count_87 : decode cX6_count 87 = .ok (.aload_n 0, 1) := by decide +kernel
theorem dX6_count_88 : decode cX6_count 88 = .ok (.getfield 313, 3) := by decide +kernel
theorem dX6_count_91 : decode cX6_count 91 = .ok (.ireturn, 1) := by decide +kernel
theorem dX6_count_92 : decode cX6_count 92 = .ok (.aload_n 0, 1) := by decide +kernel
theorem dX6_count_93 : decode cX6_count 93 = .ok (.getfield 151, 3) := by decide +kernel
theorem dX6_count_96 : decode cX6_count 96 = .ok (.ireturn, 1) := by decide +kernel
theorem dX6_count_97 : decode cX6_count 97 = .ok (.aload_n 0, 1) := by decide +kernel
theorem dX6_count_98 : decode cX6_count 98 = .ok (.getfield 154, 3) := by decide +kernel
theorem dX6_count_101 : decode cX6_count 101 = .ok (.ireturn, 1) := by decide +kernel
theorem dX6_count_102 : decode cX6_count 102 = .ok (.aload_n 0, 1) := by decide +kernel
theorem dX6_count_103 : decode cX6_count 103 = .ok (.invokevirtual 341, 3) := by decide +kernel
theorem dX6_count_106 : decode cX6_count 106 = .ok (.ireturn, 1) := by decide +kernel
theorem dX6_count_107 : decode cX6_count 107 = .ok (.aload_n 0, 1) := by decide +kernel
theorem dX6_count_108 : decode cX6_count 108 = .ok (.invokevirtual 335, 3) := by decide +kernel
theorem dX6_count_111 : decode cX6_count 111 = .ok (.ireturn, 1) := by decide +kernel
theorem dX6_count_112 : decode cX6_count 112 = .ok (.aload_n 0, 1) := by decide +kernel
theorem dX6_count_113 : decode cX6_count 113 = .ok (.invokevirtual 344, 3) := by decide +kernel
theorem dX6_count_116 : decode cX6_count 116 = .ok (.ireturn, 1) := by decide +kernel
theorem dX6_count_117 : decode cX6_count 117 = .ok (.aload_n 0, 1) := by decide +kernel
theorem dX6_count_118 : decode cX6_count 118 = .ok (.invokevirtual 379, 3) := by decide +kernel
theorem dX6_count_121 : decode cX6_count 121 = .ok (.ireturn, 1) := by decide +kernel
theorem dX6_count_122 : decode cX6_count 122 = .ok (.aload_n 0, 1) := by decide +kernel
theorem dX6_count_123 : decode cX6_count 123 = .ok (.getfield 316, 3) := by decide +kernel
theorem dX6_count_126 : decode cX6_count 126 = .ok (.ireturn, 1) := by decide +kernel
theorem dX6_count_127 : decode cX6_count 127 = .ok (.aload_n 0, 1) := by decide +kernel
theorem dX6_count_128 : decode cX6_count 128 = .ok (.getfield 319, 3) := by decide +kernel
theorem dX6_count_131 : decode cX6_count 131 = .ok (.ireturn, 1) := by decide +kernel
theorem dX6_count_132 : decode cX6_count 132 = .ok (.aload_n 0, 1) := by decide +kernel
theorem dX6_count_133 : decode cX6_count 133 = .ok (.getfield 168, 3) := by decide +kernel
theorem dX6_count_136 : decode cX6_count 136 = .ok (.ireturn, 1) := by decide +kernel
theorem dX6_count_137 : decode cX6_count 137 = .ok (.aload_n 0, 1) := by decide +kernel
theorem dX6_count_138 : decode cX6_count 138 = .ok (.getfield 70, 3) := by decide +kernel
theorem dX6_count_141 : decode cX6_count 141 = .ok (.iload_n 1, 1) := by decide +kernel
theorem dX6_count_142 : decode cX6_count 142 = .ok (.bipush 12, 2) := by decide +kernel
theorem dX6_count_144 : decode cX6_count 144 = .ok (.isub, 1) := by decide +kernel
theorem dX6_count_145 : decode cX6_count 145 = .ok (.iaload, 1) := by decide +kernel
theorem dX6_count_146 : decode cX6_count 146 = .ok (.ireturn, 1) := by decide +kernel
theorem dX6_count_147 : decode cX6_count 147 = .ok (.aload_n 0, 1) := by decide +kernel
theorem dX6_count_148 : decode cX6_count 148 = .ok (.iconst 1, 1) := by decide +kernel
theorem dX6_count_149 : decode cX6_count 149 = .ok (.invokevirtual 300, 3) := by decide +kernel
theorem dX6_count_152 : decode cX6_count 152 = .ok (.ireturn, 1) := by decide +kernel
theorem dX6_leaf_0 : decode cX6_leaf 0 = .ok (.aload_n 0, 1) := by decide +kernel
theorem dX6_leaf_1 : decode cX6_leaf 1 = .ok (.iconst 0, 1) := by decide +kernel
theorem dX6_leaf_2 : decode cX6_leaf 2 = .ok (.putfield 157, 3) := by decide +kernel
theorem dX6_leaf_5 : decode cX6_leaf 5 = .ok (.aload_n 0, 1) := by decide +kernel
theorem dX6_leaf_6 : decode cX6_leaf 6 = .ok (.iload_n 1, 1) := by decide +kernel
theorem dX6_leaf_7 : decode cX6_leaf 7 = .ok (.invokevirtual 382, 3) := by decide +kernel
theorem dX6_leaf_10 : decode cX6_leaf 10 = .ok (.ifCond .eq 13, 3) := by decide +kernel
theorem dX6_leaf_13 : decode cX6_leaf 13 = .ok (.iload_n 2, 1) := by decide +kernel
theorem dX6_leaf_14 : decode cX6_leaf 14 = .ok (.i2l, 1) := by decide +kernel
theorem dX6_leaf_15 : decode cX6_leaf 15 = .ok (.lconst 0, 1) := by decide +kernel
theorem dX6_leaf_16 : decode cX6_leaf 16 = .ok (.lconst 1, 1) := by decide +kernel
theorem dX6_leaf_17 : decode cX6_leaf 17 = .ok (.invokestatic 160, 3) := by decide +kernel
theorem dX6_leaf_20 : decode cX6_leaf 20 = .ok (.ifCond .ne 9, 3) := by decide +kernel
theorem dX6_leaf_23 : decode cX6_leaf 23 = .ok (.aload_n 0, 1) := by decide +kernel
theorem dX6_leaf_24 : decode cX6_leaf 24 = .ok (.iconst 1, 1) := by decide +kernel
theorem dX6_leaf_25 : decode cX6_leaf 25 = .ok (.invokevirtual 300, 3) := by decide +kernel
theorem dX6_leaf_28 : decode cX6_leaf 28 = .ok (.ireturn, 1) := by decide +kernel
theorem dX6_leaf_29 : decode cX6_leaf 29 = .ok (.iload_n 2, 1) := by decide +kernel
theorem dX6_leaf_30 : decode cX6_leaf 30 = .ok (.ifCond .ne 12, 3) := by decide +kernel
theorem dX6_leaf_33 : decode cX6_leaf 33 = .ok (.aload_n 0, 1) := by decide +kernel
theorem dX6_leaf_34 : decode cX6_leaf 34 = .ok (.getfield 82, 3) := by decide +kernel
theorem dX6_leaf_37 : decode cX6_leaf 37 = .ok (.iload_n 1, 1) := by decide +kernel
theorem dX6_leaf_38 : decode cX6_leaf 38 = .ok (.iaload, 1) := by decide +kernel
theorem dX6_leaf_39 : decode cX6_leaf 39 = .ok (.goto 9, 3) := by decide +kernel
theorem dX6_leaf_42 : decode cX6_leaf 42 = .ok (.aload_n 0, 1) := by decide +kernel
theorem dX6_leaf_43 : decode cX6_leaf 43 = .ok (.getfield 49, 3) := by decide +kernel
theorem dX6_leaf_46 : decode cX6_leaf 46 = .ok (.iload_n 1, 1) := by decide +kernel
theorem dX6_leaf_47 : decode cX6_leaf 47 = .ok (.iaload, 1) := by decide +kernel
theorem dX6_leaf_48 : decode cX6_leaf 48 = .ok (.ireturn, 1) := by decide +kernel
theorem dX6_seatOf_0 : decode cX6_seatOf 0 = .ok (.iconst 0, 1) := by decide +kernel
theorem dX6_seatOf_1 : decode cX6_seatOf 1 = .ok (.istore_n 2, 1) := by decide +kernel
theorem dX6_seatOf_2 : decode cX6_seatOf 2 = .ok (.iload_n 2, 1) := by decide +kernel
theorem dX6_seatOf_3 : decode cX6_seatOf 3 = .ok (.aload_n 0, 1) := by decide +kernel
theorem dX6_seatOf_4 : decode cX6_seatOf 4 = .ok (.getfield 42, 3) := by decide +kernel
theorem dX6_seatOf_7 : decode cX6_seatOf 7 = .ok (.iconst 1, 1) := by decide +kernel
theorem dX6_seatOf_8 : decode cX6_seatOf 8 = .ok (.iaload, 1) := by decide +kernel
theorem dX6_seatOf_9 : decode cX6_seatOf 9 = .ok (.if_icmp .ge 21, 3) := by decide +kernel
theorem dX6_seatOf_12 : decode cX6_seatOf 12 = .ok (.aload_n 0, 1) := by decide +kernel
theorem dX6_seatOf_13 : decode cX6_seatOf 13 = .ok (.getfield 85, 3) := by decide +kernel
theorem dX6_seatOf_16 : decode cX6_seatOf 16 = .ok (.iload_n 2, 1) := by decide +kernel
theorem dX6_seatOf_17 : decode cX6_seatOf 17 = .ok (.iaload, 1) := by decide +kernel
theorem dX6_seatOf_18 : decode cX6_seatOf 18 = .ok (.iload_n 1, 1) := by decide +kernel
theorem dX6_seatOf_19 : decode cX6_seatOf 19 = .ok (.if_icmp .ne 5, 3) := by decide +kernel
theorem dX6_seatOf_22 : decode cX6_seatOf 22 = .ok (.iload_n 2, 1) := by decide +kernel
theorem dX6_seatOf_23 : decode cX6_seatOf 23 = .ok (.ireturn, 1) := by decide +kernel
theorem dX6_seatOf_24 : decode cX6_seatOf 24 = .ok (.iinc 2 1, 3) := by decide +kernel
theorem dX6_seatOf_27 : decode cX6_seatOf 27 = .ok (.goto (-25), 3) := by decide +kernel
theorem dX6_seatOf_30 : decode cX6_seatOf 30 = .ok (.iconst (-1), 1) := by decide +kernel
theorem dX6_seatOf_31 : decode cX6_seatOf 31 = .ok (.ireturn, 1) := by decide +kernel
theorem dX6_partyOf_0 : decode cX6_partyOf 0 = .ok (.iconst 0, 1) := by decide +kernel
theorem dX6_partyOf_1 : decode cX6_partyOf 1 = .ok (.istore_n 2, 1) := by decide +kernel
theorem dX6_partyOf_2 : decode cX6_partyOf 2 = .ok (.iconst 0, 1) := by decide +kernel
theorem dX6_partyOf_3 : decode cX6_partyOf 3 = .ok (.istore_n 3, 1) := by decide +kernel
theorem dX6_partyOf_4 : decode cX6_partyOf 4 = .ok (.iload_n 3, 1) := by decide +kernel
theorem dX6_partyOf_5 : decode cX6_partyOf 5 = .ok (.aload_n 0, 1) := by decide +kernel
theorem dX6_partyOf_6 : decode cX6_partyOf 6 = .ok (.getfield 42, 3) := by decide +kernel
theorem dX6_partyOf_9 : decode cX6_partyOf 9 = .ok (.iconst 1, 1) := by decide +kernel
theorem dX6_partyOf_10 : decode cX6_partyOf 10 = .ok (.iaload, 1) := by decide +kernel
theorem dX6_partyOf_11 : decode cX6_partyOf 11 = .ok (.if_icmp .ge 34, 3) := by decide +kernel
theorem dX6_partyOf_14 : decode cX6_partyOf 14 = .ok (.iload_n 2, 1) := by decide +kernel
theorem dX6_partyOf_15 : decode cX6_partyOf 15 = .ok (.aload_n 0, 1) := by decide +kernel
theorem dX6_partyOf_16 : decode cX6_partyOf 16 = .ok (.getfield 61, 3) := by decide +kernel
theorem dX6_partyOf_19 : decode cX6_partyOf 19 = .ok (.iload_n 3, 1) := by decide +kernel
theorem dX6_partyOf_20 : decode cX6_partyOf 20 = .ok (.iaload, 1) := by decide +kernel
theorem dX6_partyOf_21 : decode cX6_partyOf 21 = .ok (.aload_n 0, 1) := by decide +kernel
theorem dX6_partyOf_22 : decode cX6_partyOf 22 = .ok (.getfield 61, 3) := by decide +kernel
theorem dX6_partyOf_25 : decode cX6_partyOf 25 = .ok (.iload_n 1, 1) := by decide +kernel
theorem dX6_partyOf_26 : decode cX6_partyOf 26 = .ok (.iaload, 1) := by decide +kernel
theorem dX6_partyOf_27 : decode cX6_partyOf 27 = .ok (.if_icmp .ne 9, 3) := by decide +kernel
theorem dX6_partyOf_30 : decode cX6_partyOf 30 = .ok (.iconst 1, 1) := by decide +kernel
theorem dX6_partyOf_31 : decode cX6_partyOf 31 = .ok (.iload_n 3, 1) := by decide +kernel
theorem dX6_partyOf_32 : decode cX6_partyOf 32 = .ok (.ishl, 1) := by decide +kernel
theorem dX6_partyOf_33 : decode cX6_partyOf 33 = .ok (.goto 4, 3) := by decide +kernel
theorem dX6_partyOf_36 : decode cX6_partyOf 36 = .ok (.iconst 0, 1) := by decide +kernel
theorem dX6_partyOf_37 : decode cX6_partyOf 37 = .ok (.ior, 1) := by decide +kernel
theorem dX6_partyOf_38 : decode cX6_partyOf 38 = .ok (.istore_n 2, 1) := by decide +kernel
theorem dX6_partyOf_39 : decode cX6_partyOf 39 = .ok (.iinc 3 1, 3) := by decide +kernel
theorem dX6_partyOf_42 : decode cX6_partyOf 42 = .ok (.goto (-38), 3) := by decide +kernel
theorem dX6_partyOf_45 : decode cX6_partyOf 45 = .ok (.iload_n 2, 1) := by decide +kernel
theorem dX6_partyOf_46 : decode cX6_partyOf 46 = .ok (.ireturn, 1) := by decide +kernel
theorem dX6_judge_0 : decode cX6_judge 0 = .ok (.aload_n 0, 1) := by decide +kernel
theorem dX6_judge_1 : decode cX6_judge 1 = .ok (.iconst 0, 1) := by decide +kernel
theorem dX6_judge_2 : decode cX6_judge 2 = .ok (.putfield 157, 3) := by decide +kernel
theorem dX6_judge_5 : decode cX6_judge 5 = .ok (.aload_n 0, 1) := by decide +kernel
theorem dX6_judge_6 : decode cX6_judge 6 = .ok (.iload_n 1, 1) := by decide +kernel
theorem dX6_judge_7 : decode cX6_judge 7 = .ok (.invokevirtual 385, 3) := by decide +kernel
theorem dX6_judge_10 : decode cX6_judge 10 = .ok (.ifCond .ne 9, 3) := by decide +kernel
theorem dX6_judge_13 : decode cX6_judge 13 = .ok (.aload_n 0, 1) := by decide +kernel
theorem dX6_judge_14 : decode cX6_judge 14 = .ok (.iconst 1, 1) := by decide +kernel
theorem dX6_judge_15 : decode cX6_judge 15 = .ok (.invokevirtual 300, 3) := by decide +kernel
theorem dX6_judge_18 : decode cX6_judge 18 = .ok (.ireturn, 1) := by decide +kernel
theorem dX6_judge_19 : decode cX6_judge 19 = .ok (.iload_n 2, 1) := by decide +kernel
theorem dX6_judge_20 : decode cX6_judge 20 = .ok (.tableswitch 80 0 5 #[40, 47, 54, 61, 67, 74], 40) := by decide +kernel
theorem dX6_judge_60 : decode cX6_judge 60 = .ok (.aload_n 0, 1) := by decide +kernel
theorem dX6_judge_61 : decode cX6_judge 61 = .ok (.getfield 73, 3) := by decide +kernel
theorem dX6_judge_64 : decode cX6_judge 64 = .ok (.iload_n 1, 1) := by decide +kernel
theorem dX6_judge_65 : decode cX6_judge 65 = .ok (.iaload, 1) := by decide +kernel
theorem dX6_judge_66 : decode cX6_judge 66 = .ok (.ireturn, 1) := by decide +kernel
theorem dX6_judge_67 : decode cX6_judge 67 = .ok (.aload_n 0, 1) := by decide +kernel
theorem dX6_judge_68 : decode cX6_judge 68 = .ok (.getfield 88, 3) := by decide +kernel
theorem dX6_judge_71 : decode cX6_judge 71 = .ok (.iload_n 1, 1) := by decide +kernel
theorem dX6_judge_72 : decode cX6_judge 72 = .ok (.iaload, 1) := by decide +kernel
theorem dX6_judge_73 : decode cX6_judge 73 = .ok (.ireturn, 1) := by decide +kernel
theorem dX6_judge_74 : decode cX6_judge 74 = .ok (.aload_n 0, 1) := by decide +kernel
theorem dX6_judge_75 : decode cX6_judge 75 = .ok (.getfield 61, 3) := by decide +kernel
theorem dX6_judge_78 : decode cX6_judge 78 = .ok (.iload_n 1, 1) := by decide +kernel
theorem dX6_judge_79 : decode cX6_judge 79 = .ok (.iaload, 1) := by decide +kernel
theorem dX6_judge_80 : decode cX6_judge 80 = .ok (.ireturn, 1) := by decide +kernel
theorem dX6_judge_81 : decode cX6_judge 81 = .ok (.aload_n 0, 1) := by decide +kernel
theorem dX6_judge_82 : decode cX6_judge 82 = .ok (.iload_n 1, 1) := by decide +kernel
theorem dX6_judge_83 : decode cX6_judge 83 = .ok (.invokevirtual 388, 3) := by decide +kernel
theorem dX6_judge_86 : decode cX6_judge 86 = .ok (.ireturn, 1) := by decide +kernel
theorem dX6_judge_87 : decode cX6_judge 87 = .ok (.aload_n 0, 1) := by decide +kernel
theorem dX6_judge_88 : decode cX6_judge 88 = .ok (.getfield 52, 3) := by decide +kernel
theorem dX6_judge_91 : decode cX6_judge 91 = .ok (.iload_n 1, 1) := by decide +kernel
theorem dX6_judge_92 : decode cX6_judge 92 = .ok (.iaload, 1) := by decide +kernel
theorem dX6_judge_93 : decode cX6_judge 93 = .ok (.ireturn, 1) := by decide +kernel
theorem dX6_judge_94 : decode cX6_judge 94 = .ok (.aload_n 0, 1) := by decide +kernel
theorem dX6_judge_95 : decode cX6_judge 95 = .ok (.iload_n 1, 1) := by decide +kernel
theorem dX6_judge_96 : decode cX6_judge 96 = .ok (.invokevirtual 391, 3) := by decide +kernel
theorem dX6_judge_99 : decode cX6_judge 99 = .ok (.ireturn, 1) := by decide +kernel
theorem dX6_judge_100 : decode cX6_judge 100 = .ok (.aload_n 0, 1) := by decide +kernel
theorem dX6_judge_101 : decode cX6_judge 101 = .ok (.iconst 1, 1) := by decide +kernel
theorem dX6_judge_102 : decode cX6_judge 102 = .ok (.invokevirtual 300, 3) := by decide +kernel
theorem dX6_judge_105 : decode cX6_judge 105 = .ok (.ireturn, 1) := by decide +kernel
theorem dX6_seat_0 : decode cX6_seat 0 = .ok (.aload_n 0, 1) := by decide +kernel
theorem dX6_seat_1 : decode cX6_seat 1 = .ok (.iconst 0, 1) := by decide +kernel
theorem dX6_seat_2 : decode cX6_seat 2 = .ok (.putfield 157, 3) := by decide +kernel
theorem dX6_seat_5 : decode cX6_seat 5 = .ok (.aload_n 0, 1) := by decide +kernel
theorem dX6_seat_6 : decode cX6_seat 6 = .ok (.iload_n 1, 1) := by decide +kernel
theorem dX6_seat_7 : decode cX6_seat 7 = .ok (.invokevirtual 385, 3) := by decide +kernel
theorem dX6_seat_10 : decode cX6_seat 10 = .ok (.ifCond .eq 12, 3) := by decide +kernel
theorem dX6_seat_13 : decode cX6_seat 13 = .ok (.aload_n 0, 1) := by decide +kernel
theorem dX6_seat_14 : decode cX6_seat 14 = .ok (.getfield 85, 3) := by decide +kernel
theorem dX6_seat_17 : decode cX6_seat 17 = .ok (.iload_n 1, 1) := by decide +kernel
theorem dX6_seat_18 : decode cX6_seat 18 = .ok (.iaload, 1) := by decide +kernel
theorem dX6_seat_19 : decode cX6_seat 19 = .ok (.goto 8, 3) := by decide +kernel
theorem dX6_seat_22 : decode cX6_seat 22 = .ok (.aload_n 0, 1) := by decide +kernel
theorem dX6_seat_23 : decode cX6_seat 23 = .ok (.iconst 1, 1) := by decide +kernel
theorem dX6_seat_24 : decode cX6_seat 24 = .ok (.invokevirtual 300, 3) := by decide +kernel
theorem dX6_seat_27 : decode cX6_seat 27 = .ok (.ireturn, 1) := by decide +kernel
theorem dX6_heap_0 : decode cX6_heap 0 = .ok (.aload_n 0, 1) := by decide +kernel
theorem dX6_heap_1 : decode cX6_heap 1 = .ok (.iconst 0, 1) := by decide +kernel
theorem dX6_heap_2 : decode cX6_heap 2 = .ok (.putfield 157, 3) := by decide +kernel
theorem dX6_heap_5 : decode cX6_heap 5 = .ok (.iload_n 1, 1) := by decide +kernel
theorem dX6_heap_6 : decode cX6_heap 6 = .ok (.invokestatic 394, 3) := by decide +kernel
theorem dX6_heap_9 : decode cX6_heap 9 = .ok (.ifCond .eq 11, 3) := by decide +kernel
theorem dX6_heap_12 : decode cX6_heap 12 = .ok (.aload_n 0, 1) := by decide +kernel
theorem dX6_heap_13 : decode cX6_heap 13 = .ok (.iload_n 1, 1) := by decide +kernel
theorem dX6_heap_14 : decode cX6_heap 14 = .ok (.invokevirtual 329, 3) := by decide +kernel
theorem dX6_heap_17 : decode cX6_heap 17 = .ok (.goto 8, 3) := by decide +kernel
theorem dX6_heap_20 : decode cX6_heap 20 = .ok (.aload_n 0, 1) := by decide +kernel
theorem dX6_heap_21 : decode cX6_heap 21 = .ok (.iconst 1, 1) := by decide +kernel
theorem dX6_heap_22 : decode cX6_heap 22 = .ok (.invokevirtual 300, 3) := by decide +kernel
theorem dX6_heap_25 : decode cX6_heap 25 = .ok (.ireturn, 1) := by decide +kernel
theorem dX6_weight_0 : decode cX6_weight 0 = .ok (.aload_n 0, 1) := by decide +kernel
theorem dX6_weight_1 : decode cX6_weight 1 = .ok (.iconst 0, 1) := by decide +kernel
theorem dX6_weight_2 : decode cX6_weight 2 = .ok (.putfield 157, 3) := by decide +kernel
theorem dX6_weight_5 : decode cX6_weight 5 = .ok (.iload_n 1, 1) := by decide +kernel
theorem dX6_weight_6 : decode cX6_weight 6 = .ok (.invokestatic 394, 3) := by decide +kernel
theorem dX6_weight_9 : decode cX6_weight 9 = .ok (.ifCond .ne 9, 3) := by decide +kernel
theorem dX6_weight_12 : decode cX6_weight 12 = .ok (.aload_n 0, 1) := by decide +kernel
theorem dX6_weight_13 : decode cX6_weight 13 = .ok (.iconst 1, 1) := by decide +kernel
theorem dX6_weight_14 : decode cX6_weight 14 = .ok (.invokevirtual 300, 3) := by decide +kernel
theorem dX6_weight_17 : decode cX6_weight 17 = .ok (.ireturn, 1) := by decide +kernel
theorem dX6_weight_18 : decode cX6_weight 18 = .ok (.iconst 0, 1) := by decide +kernel
theorem dX6_weight_19 : decode cX6_weight 19 = .ok (.istore_n 2, 1) := by decide +kernel
theorem dX6_weight_20 : decode cX6_weight 20 = .ok (.iconst 0, 1) := by decide +kernel
theorem dX6_weight_21 : decode cX6_weight 21 = .ok (.istore_n 3, 1) := by decide +kernel
theorem dX6_weight_22 : decode cX6_weight 22 = .ok (.iload_n 3, 1) := by decide +kernel
theorem dX6_weight_23 : decode cX6_weight 23 = .ok (.aload_n 0, 1) := by decide +kernel
theorem dX6_weight_24 : decode cX6_weight 24 = .ok (.getfield 42, 3) := by decide +kernel
theorem dX6_weight_27 : decode cX6_weight 27 = .ok (.iconst 0, 1) := by decide +kernel
theorem dX6_weight_28 : decode cX6_weight 28 = .ok (.iaload, 1) := by decide +kernel
theorem dX6_weight_29 : decode cX6_weight 29 = .ok (.if_icmp .ge 32, 3) := by decide +kernel
theorem dX6_weight_32 : decode cX6_weight 32 = .ok (.iload_n 2, 1) := by decide +kernel
theorem dX6_weight_33 : decode cX6_weight 33 = .ok (.aload_n 0, 1) := by decide +kernel
theorem dX6_weight_34 : decode cX6_weight 34 = .ok (.getfield 82, 3) := by decide +kernel
theorem dX6_weight_37 : decode cX6_weight 37 = .ok (.iload_n 3, 1) := by decide +kernel
theorem dX6_weight_38 : decode cX6_weight 38 = .ok (.iaload, 1) := by decide +kernel
theorem dX6_weight_39 : decode cX6_weight 39 = .ok (.iload_n 1, 1) := by decide +kernel
theorem dX6_weight_40 : decode cX6_weight 40 = .ok (.if_icmp .ne 12, 3) := by decide +kernel
theorem dX6_weight_43 : decode cX6_weight 43 = .ok (.aload_n 0, 1) := by decide +kernel
theorem dX6_weight_44 : decode cX6_weight 44 = .ok (.getfield 49, 3) := by decide +kernel
theorem dX6_weight_47 : decode cX6_weight 47 = .ok (.iload_n 3, 1) := by decide +kernel
theorem dX6_weight_48 : decode cX6_weight 48 = .ok (.iaload, 1) := by decide +kernel
theorem dX6_weight_49 : decode cX6_weight 49 = .ok (.goto 4, 3) := by decide +kernel
theorem dX6_weight_52 : decode cX6_weight 52 = .ok (.iconst 0, 1) := by decide +kernel
theorem dX6_weight_53 : decode cX6_weight 53 = .ok (.iadd, 1) := by decide +kernel
theorem dX6_weight_54 : decode cX6_weight 54 = .ok (.istore_n 2, 1) := by decide +kernel
theorem dX6_weight_55 : decode cX6_weight 55 = .ok (.iinc 3 1, 3) := by decide +kernel
theorem dX6_weight_58 : decode cX6_weight 58 = .ok (.goto (-36), 3) := by decide +kernel
theorem dX6_weight_61 : decode cX6_weight 61 = .ok (.iload_n 2, 1) := by decide +kernel
theorem dX6_weight_62 : decode cX6_weight 62 = .ok (.ireturn, 1) := by decide +kernel
theorem dX6_refuse_0 : decode cX6_refuse 0 = .ok (.aload_n 0, 1) := by decide +kernel
theorem dX6_refuse_1 : decode cX6_refuse 1 = .ok (.getfield 70, 3) := by decide +kernel
theorem dX6_refuse_4 : decode cX6_refuse 4 = .ok (.iload_n 1, 1) := by decide +kernel
theorem dX6_refuse_5 : decode cX6_refuse 5 = .ok (.dup2, 1) := by decide +kernel
theorem dX6_refuse_6 : decode cX6_refuse 6 = .ok (.iaload, 1) := by decide +kernel
theorem dX6_refuse_7 : decode cX6_refuse 7 = .ok (.iconst 1, 1) := by decide +kernel
theorem dX6_refuse_8 : decode cX6_refuse 8 = .ok (.iadd, 1) := by decide +kernel
theorem dX6_refuse_9 : decode cX6_refuse 9 = .ok (.iastore, 1) := by decide +kernel
theorem dX6_refuse_10 : decode cX6_refuse 10 = .ok (.iconst (-1), 1) := by decide +kernel
theorem dX6_refuse_11 : decode cX6_refuse 11 = .ok (.ireturn, 1) := by decide +kernel
theorem dX6_keep_0 : decode cX6_keep 0 = .ok (.aload_n 0, 1) := by decide +kernel
theorem dX6_keep_1 : decode cX6_keep 1 = .ok (.getfield 316, 3) := by decide +kernel
theorem dX6_keep_4 : decode cX6_keep 4 = .ok (.bipush 40, 2) := by decide +kernel
theorem dX6_keep_6 : decode cX6_keep 6 = .ok (.if_icmp .ne 46, 3) := by decide +kernel
theorem dX6_keep_9 : decode cX6_keep 9 = .ok (.bipush 27, 2) := by decide +kernel
theorem dX6_keep_11 : decode cX6_keep 11 = .ok (.istore_n 1, 1) := by decide +kernel
theorem dX6_keep_12 : decode cX6_keep 12 = .ok (.iload_n 1, 1) := by decide +kernel
theorem dX6_keep_13 : decode cX6_keep 13 = .ok (.aload_n 0, 1) := by decide +kernel
theorem dX6_keep_14 : decode cX6_keep 14 = .ok (.getfield 91, 3) := by decide +kernel
theorem dX6_keep_17 : decode cX6_keep 17 = .ok (.arraylength, 1) := by decide +kernel
theorem dX6_keep_18 : decode cX6_keep 18 = .ok (.if_icmp .ge 24, 3) := by decide +kernel
theorem dX6_keep_21 : decode cX6_keep 21 = .ok (.aload_n 0, 1) := by decide +kernel
theorem dX6_keep_22 : decode cX6_keep 22 = .ok (.getfield 91, 3) := by decide +kernel
theorem dX6_keep_25 : decode cX6_keep 25 = .ok (.iload_n 1, 1) := by decide +kernel
theorem dX6_keep_26 : decode cX6_keep 26 = .ok (.bipush 27, 2) := by decide +kernel
theorem dX6_keep_28 : decode cX6_keep 28 = .ok (.isub, 1) := by decide +kernel
theorem dX6_keep_29 : decode cX6_keep 29 = .ok (.aload_n 0, 1) := by decide +kernel
theorem dX6_keep_30 : decode cX6_keep 30 = .ok (.getfield 91, 3) := by decide +kernel
theorem dX6_keep_33 : decode cX6_keep 33 = .ok (.iload_n 1, 1) := by decide +kernel
theorem dX6_keep_34 : decode cX6_keep 34 = .ok (.iaload, 1) := by decide +kernel
theorem dX6_keep_35 : decode cX6_keep 35 = .ok (.iastore, 1) := by decide +kernel
theorem dX6_keep_36 : decode cX6_keep 36 = .ok (.iinc 1 1, 3) := by decide +kernel
theorem dX6_keep_39 : decode cX6_keep 39 = .ok (.goto (-27), 3) := by decide +kernel
theorem dX6_keep_42 : decode cX6_keep 42 = .ok (.aload_n 0, 1) := by decide +kernel
theorem dX6_keep_43 : decode cX6_keep 43 = .ok (.dup, 1) := by decide +kernel
theorem dX6_keep_44 : decode cX6_keep 44 = .ok (.getfield 316, 3) := by decide +kernel
theorem dX6_keep_47 : decode cX6_keep 47 = .ok (.iconst 1, 1) := by decide +kernel
theorem dX6_keep_48 : decode cX6_keep 48 = .ok (.isub, 1) := by decide +kernel
theorem dX6_keep_49 : decode cX6_keep 49 = .ok (.putfield 316, 3) := by decide +kernel
theorem dX6_keep_52 : decode cX6_keep 52 = .ok (.aload_n 0, 1) := by decide +kernel
theorem dX6_keep_53 : decode cX6_keep 53 = .ok (.aload_n 0, 1) := by decide +kernel
theorem dX6_keep_54 : decode cX6_keep 54 = .ok (.getfield 91, 3) := by decide +kernel
theorem dX6_keep_57 : decode cX6_keep 57 = .ok (.bipush 27, 2) := by decide +kernel
theorem dX6_keep_59 : decode cX6_keep 59 = .ok (.aload_n 0, 1) := by decide +kernel
theorem dX6_keep_60 : decode cX6_keep 60 = .ok (.getfield 316, 3) := by decide +kernel
theorem dX6_keep_63 : decode cX6_keep 63 = .ok (.imul, 1) := by decide +kernel
theorem dX6_keep_64 : decode cX6_keep 64 = .ok (.invokevirtual 372, 3) := by decide +kernel
theorem dX6_keep_67 : decode cX6_keep 67 = .ok (.aload_n 0, 1) := by decide +kernel
theorem dX6_keep_68 : decode cX6_keep 68 = .ok (.dup, 1) := by decide +kernel
theorem dX6_keep_69 : decode cX6_keep 69 = .ok (.getfield 316, 3) := by decide +kernel
theorem dX6_keep_72 : decode cX6_keep 72 = .ok (.iconst 1, 1) := by decide +kernel
theorem dX6_keep_73 : decode cX6_keep 73 = .ok (.iadd, 1) := by decide +kernel
theorem dX6_keep_74 : decode cX6_keep 74 = .ok (.putfield 316, 3) := by decide +kernel
theorem dX6_keep_77 : decode cX6_keep 77 = .ok (.return_, 1) := by decide +kernel
theorem dX6_cases_0 : decode cX6_cases 0 = .ok (.aload_n 0, 1) := by decide +kernel
theorem dX6_cases_1 : decode cX6_cases 1 = .ok (.iconst 0, 1) := by decide +kernel
theorem dX6_cases_2 : decode cX6_cases 2 = .ok (.putfield 157, 3) := by decide +kernel
theorem dX6_cases_5 : decode cX6_cases 5 = .ok (.iload_n 1, 1) := by decide +kernel
theorem dX6_cases_6 : decode cX6_cases 6 = .ok (.i2l, 1) := by decide +kernel
theorem dX6_cases_7 : decode cX6_cases 7 = .ok (.lconst 1, 1) := by decide +kernel
theorem dX6_cases_8 : decode cX6_cases 8 = .ok (.ldc2_w 397, 3) := by decide +kernel
theorem dX6_cases_11 : decode cX6_cases 11 = .ok (.invokestatic 160, 3) := by decide +kernel
theorem dX6_cases_14 : decode cX6_cases 14 = .ok (.ifCond .eq 15, 3) := by decide +kernel
theorem dX6_cases_17 : decode cX6_cases 17 = .ok (.aload_n 0, 1) := by decide +kernel
theorem dX6_cases_18 : decode cX6_cases 18 = .ok (.getfield 313, 3) := by decide +kernel
theorem dX6_cases_21 : decode cX6_cases 21 = .ok (.iload_n 1, 1) := by decide +kernel
theorem dX6_cases_22 : decode cX6_cases 22 = .ok (.iadd, 1) := by decide +kernel
theorem dX6_cases_23 : decode cX6_cases 23 = .ok (.sipush 999, 3) := by decide +kernel
theorem dX6_cases_26 : decode cX6_cases 26 = .ok (.if_icmp .le 9, 3) := by decide +kernel
theorem dX6_cases_29 : decode cX6_cases 29 = .ok (.aload_n 0, 1) := by decide +kernel
theorem dX6_cases_30 : decode cX6_cases 30 = .ok (.iconst 1, 1) := by decide +kernel
theorem dX6_cases_31 : decode cX6_cases 31 = .ok (.invokevirtual 399, 3) := by decide +kernel
theorem dX6_cases_34 : decode cX6_cases 34 = .ok (.ireturn, 1) := by decide +kernel
theorem dX6_cases_35 : decode cX6_cases 35 = .ok (.aload_n 0, 1) := by decide +kernel
theorem dX6_cases_36 : decode cX6_cases 36 = .ok (.invokevirtual 402, 3) := by decide +kernel
theorem dX6_cases_39 : decode cX6_cases 39 = .ok (.aload_n 0, 1) := by decide +kernel
theorem dX6_cases_40 : decode cX6_cases 40 = .ok (.iload_n 1, 1) := by decide +kernel
theorem dX6_cases_41 : decode cX6_cases 41 = .ok (.invokevirtual 405, 3) := by decide +kernel
theorem dX6_cases_44 : decode cX6_cases 44 = .ok (.aload_n 0, 1) := by decide +kernel
theorem dX6_cases_45 : decode cX6_cases 45 = .ok (.getfield 313, 3) := by decide +kernel
theorem dX6_cases_48 : decode cX6_cases 48 = .ok (.ireturn, 1) := by decide +kernel
theorem dX6_swap_0 : decode cX6_swap 0 = .ok (.aload_n 0, 1) := by decide +kernel
theorem dX6_swap_1 : decode cX6_swap 1 = .ok (.iload_n 1, 1) := by decide +kernel
theorem dX6_swap_2 : decode cX6_swap 2 = .ok (.invokevirtual 388, 3) := by decide +kernel
theorem dX6_swap_5 : decode cX6_swap 5 = .ok (.istore_n 3, 1) := by decide +kernel
theorem dX6_swap_6 : decode cX6_swap 6 = .ok (.aload_n 0, 1) := by decide +kernel
theorem dX6_swap_7 : decode cX6_swap 7 = .ok (.iload_n 2, 1) := by decide +kernel
theorem dX6_swap_8 : decode cX6_swap 8 = .ok (.invokevirtual 388, 3) := by decide +kernel
theorem dX6_swap_11 : decode cX6_swap 11 = .ok (.istore 4, 2) := by decide +kernel
theorem dX6_swap_13 : decode cX6_swap 13 = .ok (.aload_n 0, 1) := by decide +kernel
theorem dX6_swap_14 : decode cX6_swap 14 = .ok (.getfield 85, 3) := by decide +kernel
theorem dX6_swap_17 : decode cX6_swap 17 = .ok (.iload_n 3, 1) := by decide +kernel
theorem dX6_swap_18 : decode cX6_swap 18 = .ok (.iload_n 2, 1) := by decide +kernel
theorem dX6_swap_19 : decode cX6_swap 19 = .ok (.iastore, 1) := by decide +kernel
theorem dX6_swap_20 : decode cX6_swap 20 = .ok (.aload_n 0, 1) := by decide +kernel
theorem dX6_swap_21 : decode cX6_swap 21 = .ok (.getfield 85, 3) := by decide +kernel
theorem dX6_swap_24 : decode cX6_swap 24 = .ok (.iload 4, 2) := by decide +kernel
theorem dX6_swap_26 : decode cX6_swap 26 = .ok (.iload_n 1, 1) := by decide +kernel
theorem dX6_swap_27 : decode cX6_swap 27 = .ok (.iastore, 1) := by decide +kernel
theorem dX6_swap_28 : decode cX6_swap 28 = .ok (.return_, 1) := by decide +kernel
theorem dX6_change_0 : decode cX6_change 0 = .ok (.aload_n 0, 1) := by decide +kernel
theorem dX6_change_1 : decode cX6_change 1 = .ok (.iconst 0, 1) := by decide +kernel
theorem dX6_change_2 : decode cX6_change 2 = .ok (.putfield 157, 3) := by decide +kernel
theorem dX6_change_5 : decode cX6_change 5 = .ok (.aload_n 0, 1) := by decide +kernel
theorem dX6_change_6 : decode cX6_change 6 = .ok (.iload_n 1, 1) := by decide +kernel
theorem dX6_change_7 : decode cX6_change 7 = .ok (.invokevirtual 385, 3) := by decide +kernel
theorem dX6_change_10 : decode cX6_change 10 = .ok (.ifCond .eq 11, 3) := by decide +kernel
theorem dX6_change_13 : decode cX6_change 13 = .ok (.aload_n 0, 1) := by decide +kernel
theorem dX6_change_14 : decode cX6_change 14 = .ok (.iload_n 2, 1) := by decide +kernel
theorem dX6_change_15 : decode cX6_change 15 = .ok (.invokevirtual 385, 3) := by decide +kernel
theorem dX6_change_18 : decode cX6_change 18 = .ok (.ifCond .ne 9, 3) := by decide +kernel
theorem dX6_change_21 : decode cX6_change 21 = .ok (.aload_n 0, 1) := by decide +kernel
theorem dX6_change_22 : decode cX6_change 22 = .ok (.iconst 1, 1) := by decide +kernel
theorem dX6_change_23 : decode cX6_change 23 = .ok (.invokevirtual 408, 3) := by decide +kernel
theorem dX6_change_26 : decode cX6_change 26 = .ok (.ireturn, 1) := by decide +kernel
theorem dX6_change_27 : decode cX6_change 27 = .ok (.iload_n 1, 1) := by decide +kernel
theorem dX6_change_28 : decode cX6_change 28 = .ok (.iload_n 2, 1) := by decide +kernel
theorem dX6_change_29 : decode cX6_change 29 = .ok (.if_icmp .ne 15, 3) := by decide +kernel
theorem dX6_change_32 : decode cX6_change 32 = .ok (.aload_n 0, 1) := by decide +kernel
theorem dX6_change_33 : decode cX6_change 33 = .ok (.getfield 70, 3) := by decide +kernel
theorem dX6_change_36 : decode cX6_change 36 = .ok (.iconst 1, 1) := by decide +kernel
theorem dX6_change_37 : decode cX6_change 37 = .ok (.dup2, 1) := by decide +kernel
theorem dX6_change_38 : decode cX6_change 38 = .ok (.iaload, 1) := by decide +kernel
theorem dX6_change_39 : decode cX6_change 39 = .ok (.iconst 1, 1) := by decide +kernel
theorem dX6_change_40 : decode cX6_change 40 = .ok (.iadd, 1) := by decide +kernel
theorem dX6_change_41 : decode cX6_change 41 = .ok (.iastore, 1) := by decide +kernel
theorem dX6_change_42 : decode cX6_change 42 = .ok (.iconst 0, 1) := by decide +kernel
theorem dX6_change_43 : decode cX6_change 43 = .ok (.ireturn, 1) := by decide +kernel
theorem dX6_change_44 : decode cX6_change 44 = .ok (.aload_n 0, 1) := by decide +kernel
theorem dX6_change_45 : decode cX6_change 45 = .ok (.invokevirtual 402, 3) := by decide +kernel
theorem dX6_change_48 : decode cX6_change 48 = .ok (.aload_n 0, 1) := by decide +kernel
theorem dX6_change_49 : decode cX6_change 49 = .ok (.iload_n 1, 1) := by decide +kernel
theorem dX6_change_50 : decode cX6_change 50 = .ok (.iload_n 2, 1) := by decide +kernel
theorem dX6_change_51 : decode cX6_change 51 = .ok (.invokevirtual 411, 3) := by decide +kernel
theorem dX6_change_54 : decode cX6_change 54 = .ok (.iconst 1, 1) := by decide +kernel
theorem dX6_change_55 : decode cX6_change 55 = .ok (.ireturn, 1) := by decide +kernel
theorem dX6_hand_0 : decode cX6_hand 0 = .ok (.aload_n 0, 1) := by decide +kernel
theorem dX6_hand_1 : decode cX6_hand 1 = .ok (.iconst 0, 1) := by decide +kernel
theorem dX6_hand_2 : decode cX6_hand 2 = .ok (.putfield 157, 3) := by decide +kernel
theorem dX6_hand_5 : decode cX6_hand 5 = .ok (.aload_n 0, 1) := by decide +kernel
theorem dX6_hand_6 : decode cX6_hand 6 = .ok (.iload_n 1, 1) := by decide +kernel
theorem dX6_hand_7 : decode cX6_hand 7 = .ok (.invokevirtual 385, 3) := by decide +kernel
theorem dX6_hand_10 : decode cX6_hand 10 = .ok (.ifCond .ne 9, 3) := by decide +kernel
theorem dX6_hand_13 : decode cX6_hand 13 = .ok (.aload_n 0, 1) := by decide +kernel
theorem dX6_hand_14 : decode cX6_hand 14 = .ok (.iconst 1, 1) := by decide +kernel
theorem dX6_hand_15 : decode cX6_hand 15 = .ok (.invokevirtual 300, 3) := by decide +kernel
theorem dX6_hand_18 : decode cX6_hand 18 = .ok (.ireturn, 1) := by decide +kernel
theorem dX6_hand_19 : decode cX6_hand 19 = .ok (.iload_n 2, 1) := by decide +kernel
theorem dX6_hand_20 : decode cX6_hand 20 = .ok (.i2l, 1) := by decide +kernel
theorem dX6_hand_21 : decode cX6_hand 21 = .ok (.lconst 0, 1) := by decide +kernel
theorem dX6_hand_22 : decode cX6_hand 22 = .ok (.ldc2_w 415, 3) := by decide +kernel
theorem dX6_hand_25 : decode cX6_hand 25 = .ok (.invokestatic 160, 3) := by decide +kernel
theorem dX6_hand_28 : decode cX6_hand 28 = .ok (.ifCond .ne 9, 3) := by decide +kernel
theorem dX6_hand_31 : decode cX6_hand 31 = .ok (.aload_n 0, 1) := by decide +kernel
theorem dX6_hand_32 : decode cX6_hand 32 = .ok (.iconst 1, 1) := by decide +kernel
theorem dX6_hand_33 : decode cX6_hand 33 = .ok (.invokevirtual 399, 3) := by decide +kernel
theorem dX6_hand_36 : decode cX6_hand 36 = .ok (.ireturn, 1) := by decide +kernel
theorem dX6_hand_37 : decode cX6_hand 37 = .ok (.aload_n 0, 1) := by decide +kernel
theorem dX6_hand_38 : decode cX6_hand 38 = .ok (.invokevirtual 402, 3) := by decide +kernel
theorem dX6_hand_41 : decode cX6_hand 41 = .ok (.aload_n 0, 1) := by decide +kernel
theorem dX6_hand_42 : decode cX6_hand 42 = .ok (.getfield 88, 3) := by decide +kernel
theorem dX6_hand_45 : decode cX6_hand 45 = .ok (.iload_n 1, 1) := by decide +kernel
theorem dX6_hand_46 : decode cX6_hand 46 = .ok (.iaload, 1) := by decide +kernel
theorem dX6_hand_47 : decode cX6_hand 47 = .ok (.istore_n 3, 1) := by decide +kernel
theorem dX6_hand_48 : decode cX6_hand 48 = .ok (.aload_n 0, 1) := by decide +kernel
theorem dX6_hand_49 : decode cX6_hand 49 = .ok (.getfield 88, 3) := by decide +kernel
theorem dX6_hand_52 : decode cX6_hand 52 = .ok (.iload_n 1, 1) := by decide +kernel
theorem dX6_hand_53 : decode cX6_hand 53 = .ok (.iload_n 2, 1) := by decide +kernel
theorem dX6_hand_54 : decode cX6_hand 54 = .ok (.iastore, 1) := by decide +kernel
theorem dX6_hand_55 : decode cX6_hand 55 = .ok (.iload_n 3, 1) := by decide +kernel
theorem dX6_hand_56 : decode cX6_hand 56 = .ok (.ireturn, 1) := by decide +kernel
theorem dX6_pot_0 : decode cX6_pot 0 = .ok (.aload_n 0, 1) := by decide +kernel
theorem dX6_pot_1 : decode cX6_pot 1 = .ok (.iconst 0, 1) := by decide +kernel
theorem dX6_pot_2 : decode cX6_pot 2 = .ok (.putfield 157, 3) := by decide +kernel
theorem dX6_pot_5 : decode cX6_pot 5 = .ok (.iload_n 1, 1) := by decide +kernel
theorem dX6_pot_6 : decode cX6_pot 6 = .ok (.i2l, 1) := by decide +kernel
theorem dX6_pot_7 : decode cX6_pot 7 = .ok (.lconst 0, 1) := by decide +kernel
theorem dX6_pot_8 : decode cX6_pot 8 = .ok (.ldc2_w 417, 3) := by decide +kernel
theorem dX6_pot_11 : decode cX6_pot 11 = .ok (.invokestatic 160, 3) := by decide +kernel
theorem dX6_pot_14 : decode cX6_pot 14 = .ok (.ifCond .ne 9, 3) := by decide +kernel
theorem dX6_pot_17 : decode cX6_pot 17 = .ok (.aload_n 0, 1) := by decide +kernel
theorem dX6_pot_18 : decode cX6_pot 18 = .ok (.iconst 1, 1) := by decide +kernel
theorem dX6_pot_19 : decode cX6_pot 19 = .ok (.invokevirtual 399, 3) := by decide +kernel
theorem dX6_pot_22 : decode cX6_pot 22 = .ok (.ireturn, 1) := by decide +kernel
theorem dX6_pot_23 : decode cX6_pot 23 = .ok (.aload_n 0, 1) := by decide +kernel
theorem dX6_pot_24 : decode cX6_pot 24 = .ok (.invokevirtual 402, 3) := by decide +kernel
theorem dX6_pot_27 : decode cX6_pot 27 = .ok (.aload_n 0, 1) := by decide +kernel
theorem dX6_pot_28 : decode cX6_pot 28 = .ok (.getfield 151, 3) := by decide +kernel
theorem dX6_pot_31 : decode cX6_pot 31 = .ok (.istore_n 2, 1) := by decide +kernel
theorem dX6_pot_32 : decode cX6_pot 32 = .ok (.aload_n 0, 1) := by decide +kernel
theorem dX6_pot_33 : decode cX6_pot 33 = .ok (.iload_n 1, 1) := by decide +kernel
theorem dX6_pot_34 : decode cX6_pot 34 = .ok (.putfield 151, 3) := by decide +kernel
theorem dX6_pot_37 : decode cX6_pot 37 = .ok (.iload_n 2, 1) := by decide +kernel
theorem dX6_pot_38 : decode cX6_pot 38 = .ok (.ireturn, 1) := by decide +kernel
theorem dX6_put_0 : decode cX6_put 0 = .ok (.aload_n 0, 1) := by decide +kernel
theorem dX6_put_1 : decode cX6_put 1 = .ok (.iconst 0, 1) := by decide +kernel
theorem dX6_put_2 : decode cX6_put 2 = .ok (.putfield 157, 3) := by decide +kernel
theorem dX6_put_5 : decode cX6_put 5 = .ok (.aload_n 0, 1) := by decide +kernel
theorem dX6_put_6 : decode cX6_put 6 = .ok (.iload_n 1, 1) := by decide +kernel
theorem dX6_put_7 : decode cX6_put 7 = .ok (.invokevirtual 382, 3) := by decide +kernel
theorem dX6_put_10 : decode cX6_put 10 = .ok (.ifCond .eq 10, 3) := by decide +kernel
theorem dX6_put_13 : decode cX6_put 13 = .ok (.iload_n 2, 1) := by decide +kernel
theorem dX6_put_14 : decode cX6_put 14 = .ok (.invokestatic 394, 3) := by decide +kernel
theorem dX6_put_17 : decode cX6_put 17 = .ok (.ifCond .ne 9, 3) := by decide +kernel
theorem dX6_put_20 : decode cX6_put 20 = .ok (.aload_n 0, 1) := by decide +kernel
theorem dX6_put_21 : decode cX6_put 21 = .ok (.iconst 1, 1) := by decide +kernel
theorem dX6_put_22 : decode cX6_put 22 = .ok (.invokevirtual 300, 3) := by decide +kernel
theorem dX6_put_25 : decode cX6_put 25 = .ok (.ireturn, 1) := by decide +kernel
theorem dX6_put_26 : decode cX6_put 26 = .ok (.aload_n 0, 1) := by decide +kernel
theorem dX6_put_27 : decode cX6_put 27 = .ok (.getfield 82, 3) := by decide +kernel
theorem dX6_put_30 : decode cX6_put 30 = .ok (.iload_n 1, 1) := by decide +kernel
theorem dX6_put_31 : decode cX6_put 31 = .ok (.iaload, 1) := by decide +kernel
theorem dX6_put_32 : decode cX6_put 32 = .ok (.istore_n 3, 1) := by decide +kernel
theorem dX6_put_33 : decode cX6_put 33 = .ok (.iload_n 3, 1) := by decide +kernel
theorem dX6_put_34 : decode cX6_put 34 = .ok (.iload_n 2, 1) := by decide +kernel
theorem dX6_put_35 : decode cX6_put 35 = .ok (.if_icmp .ne 9, 3) := by decide +kernel
theorem dX6_put_38 : decode cX6_put 38 = .ok (.aload_n 0, 1) := by decide +kernel
theorem dX6_put_39 : decode cX6_put 39 = .ok (.iconst 1, 1) := by decide +kernel
theorem dX6_put_40 : decode cX6_put 40 = .ok (.invokevirtual 399, 3) := by decide +kernel
theorem dX6_put_43 : decode cX6_put 43 = .ok (.ireturn, 1) := by decide +kernel
theorem dX6_put_44 : decode cX6_put 44 = .ok (.aload_n 0, 1) := by decide +kernel
theorem dX6_put_45 : decode cX6_put 45 = .ok (.invokevirtual 402, 3) := by decide +kernel
theorem dX6_put_48 : decode cX6_put 48 = .ok (.aload_n 0, 1) := by decide +kernel
theorem dX6_put_49 : decode cX6_put 49 = .ok (.getfield 82, 3) := by decide +kernel
theorem dX6_put_52 : decode cX6_put 52 = .ok (.iload_n 1, 1) := by decide +kernel
theorem dX6_put_53 : decode cX6_put 53 = .ok (.iload_n 2, 1) := by decide +kernel
theorem dX6_put_54 : decode cX6_put 54 = .ok (.iastore, 1) := by decide +kernel
theorem dX6_put_55 : decode cX6_put 55 = .ok (.iload_n 3, 1) := by decide +kernel
theorem dX6_put_56 : decode cX6_put 56 = .ok (.ireturn, 1) := by decide +kernel
theorem dX6_undo_0 : decode cX6_undo 0 = .ok (.aload_n 0, 1) := by decide +kernel
theorem dX6_undo_1 : decode cX6_undo 1 = .ok (.iconst 0, 1) := by decide +kernel
theorem dX6_undo_2 : decode cX6_undo 2 = .ok (.putfield 157, 3) := by decide +kernel
theorem dX6_undo_5 : decode cX6_undo 5 = .ok (.aload_n 0, 1) := by decide +kernel
theorem dX6_undo_6 : decode cX6_undo 6 = .ok (.getfield 316, 3) := by decide +kernel
theorem dX6_undo_9 : decode cX6_undo 9 = .ok (.ifCond .ne 5, 3) := by decide +kernel
theorem dX6_undo_12 : decode cX6_undo 12 = .ok (.iconst (-1), 1) := by decide +kernel
theorem dX6_undo_13 : decode cX6_undo 13 = .ok (.ireturn, 1) := by decide +kernel
theorem dX6_undo_14 : decode cX6_undo 14 = .ok (.aload_n 0, 1) := by decide +kernel
theorem dX6_undo_15 : decode cX6_undo 15 = .ok (.dup, 1) := by decide +kernel
theorem dX6_undo_16 : decode cX6_undo 16 = .ok (.getfield 316, 3) := by decide +kernel
theorem dX6_undo_19 : decode cX6_undo 19 = .ok (.iconst 1, 1) := by decide +kernel
theorem dX6_undo_20 : decode cX6_undo 20 = .ok (.isub, 1) := by decide +kernel
theorem dX6_undo_21 : decode cX6_undo 21 = .ok (.putfield 316, 3) := by decide +kernel
theorem dX6_undo_24 : decode cX6_undo 24 = .ok (.aload_n 0, 1) := by decide +kernel
theorem dX6_undo_25 : decode cX6_undo 25 = .ok (.aload_n 0, 1) := by decide +kernel
theorem dX6_undo_26 : decode cX6_undo 26 = .ok (.getfield 91, 3) := by decide +kernel
theorem dX6_undo_29 : decode cX6_undo 29 = .ok (.bipush 27, 2) := by decide +kernel
theorem dX6_undo_31 : decode cX6_undo 31 = .ok (.aload_n 0, 1) := by decide +kernel
theorem dX6_undo_32 : decode cX6_undo 32 = .ok (.getfield 316, 3) := by decide +kernel
theorem dX6_undo_35 : decode cX6_undo 35 = .ok (.imul, 1) := by decide +kernel
theorem dX6_undo_36 : decode cX6_undo 36 = .ok (.invokevirtual 376, 3) := by decide +kernel
theorem dX6_undo_39 : decode cX6_undo 39 = .ok (.aload_n 0, 1) := by decide +kernel
theorem dX6_undo_40 : decode cX6_undo 40 = .ok (.getfield 316, 3) := by decide +kernel
theorem dX6_undo_43 : decode cX6_undo 43 = .ok (.ireturn, 1) := by decide +kernel
theorem dX6_verdict_0 : decode cX6_verdict 0 = .ok (.aload_n 0, 1) := by decide +kernel
theorem dX6_verdict_1 : decode cX6_verdict 1 = .ok (.iconst 0, 1) := by decide +kernel
theorem dX6_verdict_2 : decode cX6_verdict 2 = .ok (.putfield 157, 3) := by decide +kernel
theorem dX6_verdict_5 : decode cX6_verdict 5 = .ok (.iload_n 2, 1) := by decide +kernel
theorem dX6_verdict_6 : decode cX6_verdict 6 = .ok (.i2l, 1) := by decide +kernel
theorem dX6_verdict_7 : decode cX6_verdict 7 = .ok (.lconst 0, 1) := by decide +kernel
theorem dX6_verdict_8 : decode cX6_verdict 8 = .ok (.lconst 1, 1) := by decide +kernel
theorem dX6_verdict_9 : decode cX6_verdict 9 = .ok (.invokestatic 160, 3) := by decide +kernel
theorem dX6_verdict_12 : decode cX6_verdict 12 = .ok (.ifCond .ne 9, 3) := by decide +kernel
theorem dX6_verdict_15 : decode cX6_verdict 15 = .ok (.aload_n 0, 1) := by decide +kernel
theorem dX6_verdict_16 : decode cX6_verdict 16 = .ok (.iconst 1, 1) := by decide +kernel
theorem dX6_verdict_17 : decode cX6_verdict 17 = .ok (.invokevirtual 300, 3) := by decide +kernel
theorem dX6_verdict_20 : decode cX6_verdict 20 = .ok (.ireturn, 1) := by decide +kernel
theorem dX6_verdict_21 : decode cX6_verdict 21 = .ok (.iload_n 1, 1) := by decide +kernel
theorem dX6_verdict_22 : decode cX6_verdict 22 = .ok (.i2l, 1) := by decide +kernel
theorem dX6_verdict_23 : decode cX6_verdict 23 = .ok (.lconst 1, 1) := by decide +kernel
theorem dX6_verdict_24 : decode cX6_verdict 24 = .ok (.ldc2_w 419, 3) := by decide +kernel
theorem dX6_verdict_27 : decode cX6_verdict 27 = .ok (.invokestatic 160, 3) := by decide +kernel
theorem dX6_verdict_30 : decode cX6_verdict 30 = .ok (.ifCond .ne 9, 3) := by decide +kernel
theorem dX6_verdict_33 : decode cX6_verdict 33 = .ok (.aload_n 0, 1) := by decide +kernel
theorem dX6_verdict_34 : decode cX6_verdict 34 = .ok (.iconst 2, 1) := by decide +kernel
theorem dX6_verdict_35 : decode cX6_verdict 35 = .ok (.invokevirtual 300, 3) := by decide +kernel
theorem dX6_verdict_38 : decode cX6_verdict 38 = .ok (.ireturn, 1) := by decide +kernel
theorem dX6_verdict_39 : decode cX6_verdict 39 = .ok (.aload_n 0, 1) := by decide +kernel
theorem dX6_verdict_40 : decode cX6_verdict 40 = .ok (.aload_n 0, 1) := by decide +kernel
theorem dX6_verdict_41 : decode cX6_verdict 41 = .ok (.getfield 103, 3) := by decide +kernel
theorem dX6_verdict_44 : decode cX6_verdict 44 = .ok (.iconst 0, 1) := by decide +kernel
theorem dX6_verdict_45 : decode cX6_verdict 45 = .ok (.invokevirtual 372, 3) := by decide +kernel
theorem dX6_verdict_48 : decode cX6_verdict 48 = .ok (.aload_n 0, 1) := by decide +kernel
theorem dX6_verdict_49 : decode cX6_verdict 49 = .ok (.iload_n 1, 1) := by decide +kernel
theorem dX6_verdict_50 : decode cX6_verdict 50 = .ok (.invokevirtual 405, 3) := by decide +kernel
theorem dX6_verdict_53 : decode cX6_verdict 53 = .ok (.iload_n 2, 1) := by decide +kernel
theorem dX6_verdict_54 : decode cX6_verdict 54 = .ok (.ifCond .ne 10, 3) := by decide +kernel
theorem dX6_verdict_57 : decode cX6_verdict 57 = .ok (.aload_n 0, 1) := by decide +kernel
theorem dX6_verdict_58 : decode cX6_verdict 58 = .ok (.getfield 154, 3) := by decide +kernel
theorem dX6_verdict_61 : decode cX6_verdict 61 = .ok (.goto 7, 3) := by decide +kernel
theorem dX6_verdict_64 : decode cX6_verdict 64 = .ok (.aload_n 0, 1) := by decide +kernel
theorem dX6_verdict_65 : decode cX6_verdict 65 = .ok (.getfield 338, 3) := by decide +kernel
theorem dX6_verdict_68 : decode cX6_verdict 68 = .ok (.istore_n 3, 1) := by decide +kernel
theorem dX6_verdict_69 : decode cX6_verdict 69 = .ok (.aload_n 0, 1) := by decide +kernel
theorem dX6_verdict_70 : decode cX6_verdict 70 = .ok (.aload_n 0, 1) := by decide +kernel
theorem dX6_verdict_71 : decode cX6_verdict 71 = .ok (.getfield 103, 3) := by decide +kernel
theorem dX6_verdict_74 : decode cX6_verdict 74 = .ok (.iconst 0, 1) := by decide +kernel
theorem dX6_verdict_75 : decode cX6_verdict 75 = .ok (.invokevirtual 376, 3) := by decide +kernel
theorem dX6_verdict_78 : decode cX6_verdict 78 = .ok (.iload_n 3, 1) := by decide +kernel
theorem dX6_verdict_79 : decode cX6_verdict 79 = .ok (.ireturn, 1) := by decide +kernel
theorem dX6_lies_0 : decode cX6_lies 0 = .ok (.aload_n 0, 1) := by decide +kernel
theorem dX6_lies_1 : decode cX6_lies 1 = .ok (.iconst 0, 1) := by decide +kernel
theorem dX6_lies_2 : decode cX6_lies 2 = .ok (.putfield 157, 3) := by decide +kernel
theorem dX6_lies_5 : decode cX6_lies 5 = .ok (.aload_n 0, 1) := by decide +kernel
theorem dX6_lies_6 : decode cX6_lies 6 = .ok (.iload_n 1, 1) := by decide +kernel
theorem dX6_lies_7 : decode cX6_lies 7 = .ok (.invokevirtual 382, 3) := by decide +kernel
theorem dX6_lies_10 : decode cX6_lies 10 = .ok (.ifCond .ne 9, 3) := by decide +kernel
theorem dX6_lies_13 : decode cX6_lies 13 = .ok (.aload_n 0, 1) := by decide +kernel
theorem dX6_lies_14 : decode cX6_lies 14 = .ok (.iconst 1, 1) := by decide +kernel
theorem dX6_lies_15 : decode cX6_lies 15 = .ok (.invokevirtual 300, 3) := by decide +kernel
theorem dX6_lies_18 : decode cX6_lies 18 = .ok (.ireturn, 1) := by decide +kernel
theorem dX6_lies_19 : decode cX6_lies 19 = .ok (.iload_n 2, 1) := by decide +kernel
theorem dX6_lies_20 : decode cX6_lies 20 = .ok (.i2l, 1) := by decide +kernel
theorem dX6_lies_21 : decode cX6_lies 21 = .ok (.lconst 0, 1) := by decide +kernel
theorem dX6_lies_22 : decode cX6_lies 22 = .ok (.ldc2_w 419, 3) := by decide +kernel
theorem dX6_lies_25 : decode cX6_lies 25 = .ok (.invokestatic 160, 3) := by decide +kernel
theorem dX6_lies_28 : decode cX6_lies 28 = .ok (.ifCond .ne 9, 3) := by decide +kernel
theorem dX6_lies_31 : decode cX6_lies 31 = .ok (.aload_n 0, 1) := by decide +kernel
theorem dX6_lies_32 : decode cX6_lies 32 = .ok (.iconst 2, 1) := by decide +kernel
theorem dX6_lies_33 : decode cX6_lies 33 = .ok (.invokevirtual 300, 3) := by decide +kernel
theorem dX6_lies_36 : decode cX6_lies 36 = .ok (.ireturn, 1) := by decide +kernel
theorem dX6_lies_37 : decode cX6_lies 37 = .ok (.aload_n 0, 1) := by decide +kernel
theorem dX6_lies_38 : decode cX6_lies 38 = .ok (.aload_n 0, 1) := by decide +kernel
theorem dX6_lies_39 : decode cX6_lies 39 = .ok (.getfield 103, 3) := by decide +kernel
theorem dX6_lies_42 : decode cX6_lies 42 = .ok (.iconst 0, 1) := by decide +kernel
theorem dX6_lies_43 : decode cX6_lies 43 = .ok (.invokevirtual 372, 3) := by decide +kernel
theorem dX6_lies_46 : decode cX6_lies 46 = .ok (.aload_n 0, 1) := by decide +kernel
theorem dX6_lies_47 : decode cX6_lies 47 = .ok (.iload_n 2, 1) := by decide +kernel
theorem dX6_lies_48 : decode cX6_lies 48 = .ok (.invokevirtual 405, 3) := by decide +kernel
theorem dX6_lies_51 : decode cX6_lies 51 = .ok (.aload_n 0, 1) := by decide +kernel
theorem dX6_lies_52 : decode cX6_lies 52 = .ok (.getfield 82, 3) := by decide +kernel
theorem dX6_lies_55 : decode cX6_lies 55 = .ok (.iload_n 1, 1) := by decide +kernel
theorem dX6_lies_56 : decode cX6_lies 56 = .ok (.iaload, 1) := by decide +kernel
theorem dX6_lies_57 : decode cX6_lies 57 = .ok (.istore_n 3, 1) := by decide +kernel
theorem dX6_lies_58 : decode cX6_lies 58 = .ok (.aload_n 0, 1) := by decide +kernel
theorem dX6_lies_59 : decode cX6_lies 59 = .ok (.aload_n 0, 1) := by decide +kernel
theorem dX6_lies_60 : decode cX6_lies 60 = .ok (.getfield 103, 3) := by decide +kernel
theorem dX6_lies_63 : decode cX6_lies 63 = .ok (.iconst 0, 1) := by decide +kernel
theorem dX6_lies_64 : decode cX6_lies 64 = .ok (.invokevirtual 376, 3) := by decide +kernel
theorem dX6_lies_67 : decode cX6_lies 67 = .ok (.iload_n 3, 1) := by decide +kernel
theorem dX6_lies_68 : decode cX6_lies 68 = .ok (.ireturn, 1) := by decide +kernel
theorem dX6_tellVerdicts_0 : decode cX6_tellVerdicts 0 = .ok (.iconst 0, 1) := by decide +kernel
theorem dX6_tellVerdicts_1 : decode cX6_tellVerdicts 1 = .ok (.istore_n 2, 1) := by decide +kernel
theorem dX6_tellVerdicts_2 : decode cX6_tellVerdicts 2 = .ok (.iload_n 2, 1) := by decide +kernel
theorem dX6_tellVerdicts_3 : decode cX6_tellVerdicts 3 = .ok (.iconst 5, 1) := by decide +kernel
theorem dX6_tellVerdicts_4 : decode cX6_tellVerdicts 4 = .ok (.if_icmp .ge 16, 3) := by decide +kernel
theorem dX6_tellVerdicts_7 : decode cX6_tellVerdicts 7 = .ok (.aload_n 0, 1) := by decide +kernel
theorem dX6_tellVerdicts_8 : decode cX6_tellVerdicts 8 = .ok (.getfield 106, 3) := by decide +kernel
theorem dX6_tellVerdicts_11 : decode cX6_tellVerdicts 11 = .ok (.iload_n 2, 1) := by decide +kernel
theorem dX6_tellVerdicts_12 : decode cX6_tellVerdicts 12 = .ok (.iconst 0, 1) := by decide +kernel
theorem dX6_tellVerdicts_13 : decode cX6_tellVerdicts 13 = .ok (.iastore, 1) := by decide +kernel
theorem dX6_tellVerdicts_14 : decode cX6_tellVerdicts 14 = .ok (.iinc 2 1, 3) := by decide +kernel
theorem dX6_tellVerdicts_17 : decode cX6_tellVerdicts 17 = .ok (.goto (-15), 3) := by decide +kernel
theorem dX6_tellVerdicts_20 : decode cX6_tellVerdicts 20 = .ok (.aload_n 0, 1) := by decide +kernel
theorem dX6_tellVerdicts_21 : decode cX6_tellVerdicts 21 = .ok (.iconst 0, 1) := by decide +kernel
theorem dX6_tellVerdicts_22 : decode cX6_tellVerdicts 22 = .ok (.putfield 421, 3) := by decide +kernel
theorem dX6_tellVerdicts_25 : decode cX6_tellVerdicts 25 = .ok (.aload_n 0, 1) := by decide +kernel
theorem dX6_tellVerdicts_26 : decode cX6_tellVerdicts 26 = .ok (.iconst 0, 1) := by decide +kernel
theorem dX6_tellVerdicts_27 : decode cX6_tellVerdicts 27 = .ok (.putfield 424, 3) := by decide +kernel
theorem dX6_tellVerdicts_30 : decode cX6_tellVerdicts 30 = .ok (.iconst 0, 1) := by decide +kernel
theorem dX6_tellVerdicts_31 : decode cX6_tellVerdicts 31 = .ok (.istore_n 2, 1) := by decide +kernel
theorem dX6_tellVerdicts_32 : decode cX6_tellVerdicts 32 = .ok (.iconst (-1), 1) := by decide +kernel
theorem dX6_tellVerdicts_33 : decode cX6_tellVerdicts 33 = .ok (.istore_n 3, 1) := by decide +kernel
theorem dX6_tellVerdicts_34 : decode cX6_tellVerdicts 34 = .ok (.aload_n 0, 1) := by decide +kernel
theorem dX6_tellVerdicts_35 : decode cX6_tellVerdicts 35 = .ok (.aload_n 0, 1) := by decide +kernel
theorem dX6_tellVerdicts_36 : decode cX6_tellVerdicts 36 = .ok (.getfield 103, 3) := by decide +kernel
theorem dX6_tellVerdicts_39 : decode cX6_tellVerdicts 39 = .ok (.iconst 0, 1) := by decide +kernel
theorem dX6_tellVerdicts_40 : decode cX6_tellVerdicts 40 = .ok (.invokevirtual 372, 3) := by decide +kernel
theorem dX6_tellVerdicts_43 : decode cX6_tellVerdicts 43 = .ok (.iconst 0, 1) := by decide +kernel
theorem dX6_tellVerdicts_44 : decode cX6_tellVerdicts 44 = .ok (.istore 4, 2) := by decide +kernel
theorem dX6_tellVerdicts_46 : decode cX6_tellVerdicts 46 = .ok (.iload 4, 2) := by decide +kernel
theorem dX6_tellVerdicts_48 : decode cX6_tellVerdicts 48 = .ok (.iload_n 1, 1) := by decide +kernel
theorem dX6_tellVerdicts_49 : decode cX6_tellVerdicts 49 = .ok (.if_icmp .ge 74, 3) := by decide +kernel
theorem dX6_tellVerdicts_52 : decode cX6_tellVerdicts 52 = .ok (.aload_n 0, 1) := by decide +kernel
theorem dX6_tellVerdicts_53 : decode cX6_tellVerdicts 53 = .ok (.invokevirtual 369, 3) := by decide +kernel
theorem dX6_tellVerdicts_56 : decode cX6_tellVerdicts 56 = .ok (.aload_n 0, 1) := by decide +kernel
theorem dX6_tellVerdicts_57 : decode cX6_tellVerdicts 57 = .ok (.getfield 106, 3) := by decide +kernel
theorem dX6_tellVerdicts_60 : decode cX6_tellVerdicts 60 = .ok (.aload_n 0, 1) := by decide +kernel
theorem dX6_tellVerdicts_61 : decode cX6_tellVerdicts 61 = .ok (.getfield 154, 3) := by decide +kernel
theorem dX6_tellVerdicts_64 : decode cX6_tellVerdicts 64 = .ok (.dup2, 1) := by decide +kernel
theorem dX6_tellVerdicts_65 : decode cX6_tellVerdicts 65 = .ok (.iaload, 1) := by decide +kernel
theorem dX6_tellVerdicts_66 : decode cX6_tellVerdicts 66 = .ok (.iconst 1, 1) := by decide +kernel
theorem dX6_tellVerdicts_67 : decode cX6_tellVerdicts 67 = .ok (.iadd, 1) := by decide +kernel
theorem dX6_tellVerdicts_68 : decode cX6_tellVerdicts 68 = .ok (.iastore, 1) := by decide +kernel
theorem dX6_tellVerdicts_69 : decode cX6_tellVerdicts 69 = .ok (.aload_n 0, 1) := by decide +kernel
theorem dX6_tellVerdicts_70 : decode cX6_tellVerdicts 70 = .ok (.dup, 1) := by decide +kernel
theorem dX6_tellVerdicts_71 : decode cX6_tellVerdicts 71 = .ok (.getfield 424, 3) := by decide +kernel
theorem dX6_tellVerdicts_74 : decode cX6_tellVerdicts 74 = .ok (.iconst 1, 1) := by decide +kernel
theorem dX6_tellVerdicts_75 : decode cX6_tellVerdicts 75 = .ok (.aload_n 0, 1) := by decide +kernel
theorem dX6_tellVerdicts_76 : decode cX6_tellVerdicts 76 = .ok (.getfield 154, 3) := by decide +kernel
theorem dX6_tellVerdicts_79 : decode cX6_tellVerdicts 79 = .ok (.ishl, 1) := by decide +kernel
theorem dX6_tellVerdicts_80 : decode cX6_tellVerdicts 80 = .ok (.ior, 1) := by decide +kernel
theorem dX6_tellVerdicts_81 : decode cX6_tellVerdicts 81 = .ok (.putfield 424, 3) := by decide +kernel
theorem dX6_tellVerdicts_84 : decode cX6_tellVerdicts 84 = .ok (.aload_n 0, 1) := by decide +kernel
theorem dX6_tellVerdicts_85 : decode cX6_tellVerdicts 85 = .ok (.getfield 154, 3) := by decide +kernel
theorem dX6_tellVerdicts_88 : decode cX6_tellVerdicts 88 = .ok (.iload_n 3, 1) := by decide +kernel
theorem dX6_tellVerdicts_89 : decode cX6_tellVerdicts 89 = .ok (.if_icmp .ne 9, 3) := by decide +kernel
theorem dX6_tellVerdicts_92 : decode cX6_tellVerdicts 92 = .ok (.iload_n 2, 1) := by decide +kernel
theorem dX6_tellVerdicts_93 : decode cX6_tellVerdicts 93 = .ok (.iconst 1, 1) := by decide +kernel
theorem dX6_tellVerdicts_94 : decode cX6_tellVerdicts 94 = .ok (.iadd, 1) := by decide +kernel
theorem dX6_tellVerdicts_95 : decode cX6_tellVerdicts 95 = .ok (.goto 4, 3) := by decide +kernel
theorem dX6_tellVerdicts_98 : decode cX6_tellVerdicts 98 = .ok (.iconst 1, 1) := by decide +kernel
theorem dX6_tellVerdicts_99 : decode cX6_tellVerdicts 99 = .ok (.istore_n 2, 1) := by decide +kernel
theorem dX6_tellVerdicts_100 : decode cX6_tellVerdicts 100 = .ok (.aload_n 0, 1) := by decide +kernel
theorem dX6_tellVerdicts_101 : decode cX6_tellVerdicts 101 = .ok (.getfield 154, 3) := by decide +kernel
theorem dX6_tellVerdicts_104 : decode cX6_tellVerdicts 104 = .ok (.istore_n 3, 1) := by decide +kernel
theorem dX6_tellVerdicts_105 : decode cX6_tellVerdicts 105 = .ok (.aload_n 0, 1) := by decide +kernel
theorem dX6_tellVerdicts_106 : decode cX6_tellVerdicts 106 = .ok (.aload_n 0, 1) := by decide +kernel
theorem dX6_tellVerdicts_107 : decode cX6_tellVerdicts 107 = .ok (.getfield 421, 3) := by decide +kernel
theorem dX6_tellVerdicts_110 : decode cX6_tellVerdicts 110 = .ok (.iload_n 2, 1) := by decide +kernel
theorem dX6_tellVerdicts_111 : decode cX6_tellVerdicts 111 = .ok (.invokestatic 354, 3) := by decide +kernel
theorem dX6_tellVerdicts_114 : decode cX6_tellVerdicts 114 = .ok (.putfield 421, 3) := by decide +kernel
theorem dX6_tellVerdicts_117 : decode cX6_tellVerdicts 117 = .ok (.iinc 4 1, 3) := by decide +kernel
theorem dX6_tellVerdicts_120 : decode cX6_tellVerdicts 120 = .ok (.goto (-74), 3) := by decide +kernel
theorem dX6_tellVerdicts_123 : decode cX6_tellVerdicts 123 = .ok (.aload_n 0, 1) := by decide +kernel
theorem dX6_tellVerdicts_124 : decode cX6_tellVerdicts 124 = .ok (.aload_n 0, 1) := by decide +kernel
theorem dX6_tellVerdicts_125 : decode cX6_tellVerdicts 125 = .ok (.getfield 103, 3) := by decide +kernel
theorem dX6_tellVerdicts_128 : decode cX6_tellVerdicts 128 = .ok (.iconst 0, 1) := by decide +kernel
theorem dX6_tellVerdicts_129 : decode cX6_tellVerdicts 129 = .ok (.invokevirtual 376, 3) := by decide +kernel
theorem dX6_tellVerdicts_132 : decode cX6_tellVerdicts 132 = .ok (.return_, 1) := by decide +kernel
theorem dX6_often_0 : decode cX6_often 0 = .ok (.aload_n 0, 1) := by decide +kernel
theorem dX6_often_1 : decode cX6_often 1 = .ok (.iconst 0, 1) := by decide +kernel
theorem dX6_often_2 : decode cX6_often 2 = .ok (.putfield 157, 3) := by decide +kernel
theorem dX6_often_5 : decode cX6_often 5 = .ok (.iload_n 1, 1) := by decide +kernel
theorem dX6_often_6 : decode cX6_often 6 = .ok (.invokestatic 427, 3) := by decide +kernel
theorem dX6_often_9 : decode cX6_often 9 = .ok (.ifCond .ne 9, 3) := by decide +kernel
theorem dX6_often_12 : decode cX6_often 12 = .ok (.aload_n 0, 1) := by decide +kernel
theorem dX6_often_13 : decode cX6_often 13 = .ok (.iconst 1, 1) := by decide +kernel
theorem dX6_often_14 : decode cX6_often 14 = .ok (.invokevirtual 300, 3) := by decide +kernel
theorem dX6_often_17 : decode cX6_often 17 = .ok (.ireturn, 1) := by decide +kernel
theorem dX6_often_18 : decode cX6_often 18 = .ok (.iload_n 2, 1) := by decide +kernel
theorem dX6_often_19 : decode cX6_often 19 = .ok (.i2l, 1) := by decide +kernel
theorem dX6_often_20 : decode cX6_often 20 = .ok (.lconst 0, 1) := by decide +kernel
theorem dX6_often_21 : decode cX6_often 21 = .ok (.ldc2_w 419, 3) := by decide +kernel
theorem dX6_often_24 : decode cX6_often 24 = .ok (.invokestatic 160, 3) := by decide +kernel
theorem dX6_often_27 : decode cX6_often 27 = .ok (.ifCond .ne 9, 3) := by decide +kernel
theorem dX6_often_30 : decode cX6_often 30 = .ok (.aload_n 0, 1) := by decide +kernel
theorem dX6_often_31 : decode cX6_often 31 = .ok (.iconst 2, 1) := by decide +kernel
theorem dX6_often_32 : decode cX6_often 32 = .ok (.invokevirtual 300, 3) := by decide +kernel
theorem dX6_often_35 : decode cX6_often 35 = .ok (.ireturn, 1) := by decide +kernel
theorem dX6_often_36 : decode cX6_often 36 = .ok (.aload_n 0, 1) := by decide +kernel
theorem dX6_often_37 : decode cX6_often 37 = .ok (.iload_n 2, 1) := by decide +kernel
theorem dX6_often_38 : decode cX6_often 38 = .ok (.invokevirtual 430, 3) := by decide +kernel
theorem dX6_often_41 : decode cX6_often 41 = .ok (.aload_n 0, 1) := by decide +kernel
theorem dX6_often_42 : decode cX6_often 42 = .ok (.getfield 106, 3) := by decide +kernel
theorem dX6_often_45 : decode cX6_often 45 = .ok (.iload_n 1, 1) := by decide +kernel
theorem dX6_often_46 : decode cX6_often 46 = .ok (.iaload, 1) := by decide +kernel
theorem dX6_often_47 : decode cX6_often 47 = .ok (.ireturn, 1) := by decide +kernel
theorem dX6_streak_0 : decode cX6_streak 0 = .ok (.aload_n 0, 1) := by decide +kernel
theorem dX6_streak_1 : decode cX6_streak 1 = .ok (.iconst 0, 1) := by decide +kernel
theorem dX6_streak_2 : decode cX6_streak 2 = .ok (.putfield 157, 3) := by decide +kernel
theorem dX6_streak_5 : decode cX6_streak 5 = .ok (.iload_n 1, 1) := by decide +kernel
theorem dX6_streak_6 : decode cX6_streak 6 = .ok (.i2l, 1) := by decide +kernel
theorem dX6_streak_7 : decode cX6_streak 7 = .ok (.lconst 1, 1) := by decide +kernel
theorem dX6_streak_8 : decode cX6_streak 8 = .ok (.ldc2_w 419, 3) := by decide +kernel
theorem dX6_streak_11 : decode cX6_streak 11 = .ok (.invokestatic 160, 3) := by decide +kernel
theorem dX6_streak_14 : decode cX6_streak 14 = .ok (.ifCond .ne 9, 3) := by decide +kernel
theorem dX6_streak_17 : decode cX6_streak 17 = .ok (.aload_n 0, 1) := by decide +kernel
theorem dX6_streak_18 : decode cX6_streak 18 = .ok (.iconst 1, 1) := by decide +kernel
theorem dX6_streak_19 : decode cX6_streak 19 = .ok (.invokevirtual 300, 3) := by decide +kernel
theorem dX6_streak_22 : decode cX6_streak 22 = .ok (.ireturn, 1) := by decide +kernel
theorem dX6_streak_23 : decode cX6_streak 23 = .ok (.aload_n 0, 1) := by decide +kernel
theorem dX6_streak_24 : decode cX6_streak 24 = .ok (.iload_n 1, 1) := by decide +kernel
theorem dX6_streak_25 : decode cX6_streak 25 = .ok (.invokevirtual 430, 3) := by decide +kernel
theorem dX6_streak_28 : decode cX6_streak 28 = .ok (.aload_n 0, 1) := by decide +kernel
theorem dX6_streak_29 : decode cX6_streak 29 = .ok (.getfield 421, 3) := by decide +kernel
theorem dX6_streak_32 : decode cX6_streak 32 = .ok (.ireturn, 1) := by decide +kernel
theorem dX6_come_0 : decode cX6_come 0 = .ok (.aload_n 0, 1) := by decide +kernel
theorem dX6_come_1 : decode cX6_come 1 = .ok (.iconst 0, 1) := by decide +kernel
theorem dX6_come_2 : decode cX6_come 2 = .ok (.putfield 157, 3) := by decide +kernel
theorem dX6_come_5 : decode cX6_come 5 = .ok (.iload_n 1, 1) := by decide +kernel
theorem dX6_come_6 : decode cX6_come 6 = .ok (.i2l, 1) := by decide +kernel
theorem dX6_come_7 : decode cX6_come 7 = .ok (.lconst 0, 1) := by decide +kernel
theorem dX6_come_8 : decode cX6_come 8 = .ok (.ldc2_w 419, 3) := by decide +kernel
theorem dX6_come_11 : decode cX6_come 11 = .ok (.invokestatic 160, 3) := by decide +kernel
theorem dX6_come_14 : decode cX6_come 14 = .ok (.ifCond .ne 9, 3) := by decide +kernel
theorem dX6_come_17 : decode cX6_come 17 = .ok (.aload_n 0, 1) := by decide +kernel
theorem dX6_come_18 : decode cX6_come 18 = .ok (.iconst 1, 1) := by decide +kernel
theorem dX6_come_19 : decode cX6_come 19 = .ok (.invokevirtual 300, 3) := by decide +kernel
theorem dX6_come_22 : decode cX6_come 22 = .ok (.ireturn, 1) := by decide +kernel
theorem dX6_come_23 : decode cX6_come 23 = .ok (.aload_n 0, 1) := by decide +kernel
theorem dX6_come_24 : decode cX6_come 24 = .ok (.iload_n 1, 1) := by decide +kernel
theorem dX6_come_25 : decode cX6_come 25 = .ok (.invokevirtual 430, 3) := by decide +kernel
theorem dX6_come_28 : decode cX6_come 28 = .ok (.aload_n 0, 1) := by decide +kernel
theorem dX6_come_29 : decode cX6_come 29 = .ok (.getfield 424, 3) := by decide +kernel
theorem dX6_come_32 : decode cX6_come 32 = .ok (.ireturn, 1) := by decide +kernel
theorem dX6_first_0 : decode cX6_first 0 = .ok (.aload_n 0, 1) := by decide +kernel
theorem dX6_first_1 : decode cX6_first 1 = .ok (.iconst 0, 1) := by decide +kernel
theorem dX6_first_2 : decode cX6_first 2 = .ok (.putfield 157, 3) := by decide +kernel
theorem dX6_first_5 : decode cX6_first 5 = .ok (.iload_n 1, 1) := by decide +kernel
theorem dX6_first_6 : decode cX6_first 6 = .ok (.invokestatic 427, 3) := by decide +kernel
theorem dX6_first_9 : decode cX6_first 9 = .ok (.ifCond .ne 9, 3) := by decide +kernel
theorem dX6_first_12 : decode cX6_first 12 = .ok (.aload_n 0, 1) := by decide +kernel
theorem dX6_first_13 : decode cX6_first 13 = .ok (.iconst 1, 1) := by decide +kernel
theorem dX6_first_14 : decode cX6_first 14 = .ok (.invokevirtual 300, 3) := by decide +kernel
theorem dX6_first_17 : decode cX6_first 17 = .ok (.ireturn, 1) := by decide +kernel
theorem dX6_first_18 : decode cX6_first 18 = .ok (.aload_n 0, 1) := by decide +kernel
theorem dX6_first_19 : decode cX6_first 19 = .ok (.aload_n 0, 1) := by decide +kernel
theorem dX6_first_20 : decode cX6_first 20 = .ok (.getfield 103, 3) := by decide +kernel
theorem dX6_first_23 : decode cX6_first 23 = .ok (.iconst 0, 1) := by decide +kernel
theorem dX6_first_24 : decode cX6_first 24 = .ok (.invokevirtual 372, 3) := by decide +kernel
theorem dX6_first_27 : decode cX6_first 27 = .ok (.iconst (-1), 1) := by decide +kernel
theorem dX6_first_28 : decode cX6_first 28 = .ok (.istore_n 2, 1) := by decide +kernel
theorem dX6_first_29 : decode cX6_first 29 = .ok (.iconst 1, 1) := by decide +kernel
theorem dX6_first_30 : decode cX6_first 30 = .ok (.istore_n 3, 1) := by decide +kernel
theorem dX6_first_31 : decode cX6_first 31 = .ok (.iload_n 3, 1) := by decide +kernel
theorem dX6_first_32 : decode cX6_first 32 = .ok (.bipush 60, 2) := by decide +kernel
theorem dX6_first_34 : decode cX6_first 34 = .ok (.if_icmp .gt 28, 3) := by decide +kernel
theorem dX6_first_37 : decode cX6_first 37 = .ok (.iload_n 2, 1) := by decide +kernel
theorem dX6_first_38 : decode cX6_first 38 = .ok (.iconst (-1), 1) := by decide +kernel
theorem dX6_first_39 : decode cX6_first 39 = .ok (.if_icmp .ne 23, 3) := by decide +kernel
theorem dX6_first_42 : decode cX6_first 42 = .ok (.aload_n 0, 1) := by decide +kernel
theorem dX6_first_43 : decode cX6_first 43 = .ok (.invokevirtual 369, 3) := by decide +kernel
theorem dX6_first_46 : decode cX6_first 46 = .ok (.aload_n 0, 1) := by decide +kernel
theorem dX6_first_47 : decode cX6_first 47 = .ok (.getfield 154, 3) := by decide +kernel
theorem dX6_first_50 : decode cX6_first 50 = .ok (.iload_n 1, 1) := by decide +kernel
theorem dX6_first_51 : decode cX6_first 51 = .ok (.if_icmp .ne 5, 3) := by decide +kernel
theorem dX6_first_54 : decode cX6_first 54 = .ok (.iload_n 3, 1) := by decide +kernel
theorem dX6_first_55 : decode cX6_first 55 = .ok (.istore_n 2, 1) := by decide +kernel
theorem dX6_first_56 : decode cX6_first 56 = .ok (.iinc 3 1, 3) := by decide +kernel
theorem dX6_first_59 : decode cX6_first 59 = .ok (.goto (-28), 3) := by decide +kernel
theorem dX6_first_62 : decode cX6_first 62 = .ok (.aload_n 0, 1) := by decide +kernel
theorem dX6_first_63 : decode cX6_first 63 = .ok (.aload_n 0, 1) := by decide +kernel
theorem dX6_first_64 : decode cX6_first 64 = .ok (.getfield 103, 3) := by decide +kernel
theorem dX6_first_67 : decode cX6_first 67 = .ok (.iconst 0, 1) := by decide +kernel
theorem dX6_first_68 : decode cX6_first 68 = .ok (.invokevirtual 376, 3) := by decide +kernel
theorem dX6_first_71 : decode cX6_first 71 = .ok (.iload_n 2, 1) := by decide +kernel
theorem dX6_first_72 : decode cX6_first 72 = .ok (.ireturn, 1) := by decide +kernel
theorem dX6_round_0 : decode cX6_round 0 = .ok (.aload_n 0, 1) := by decide +kernel
theorem dX6_round_1 : decode cX6_round 1 = .ok (.iconst 0, 1) := by decide +kernel
theorem dX6_round_2 : decode cX6_round 2 = .ok (.putfield 157, 3) := by decide +kernel
theorem dX6_round_5 : decode cX6_round 5 = .ok (.aload_n 0, 1) := by decide +kernel
theorem dX6_round_6 : decode cX6_round 6 = .ok (.aload_n 0, 1) := by decide +kernel
theorem dX6_round_7 : decode cX6_round 7 = .ok (.getfield 103, 3) := by decide +kernel
theorem dX6_round_10 : decode cX6_round 10 = .ok (.iconst 0, 1) := by decide +kernel
theorem dX6_round_11 : decode cX6_round 11 = .ok (.invokevirtual 372, 3) := by decide +kernel
theorem dX6_round_14 : decode cX6_round 14 = .ok (.iconst (-1), 1) := by decide +kernel
theorem dX6_round_15 : decode cX6_round 15 = .ok (.istore_n 1, 1) := by decide +kernel
theorem dX6_round_16 : decode cX6_round 16 = .ok (.iconst 1, 1) := by decide +kernel
theorem dX6_round_17 : decode cX6_round 17 = .ok (.istore_n 2, 1) := by decide +kernel
theorem dX6_round_18 : decode cX6_round 18 = .ok (.iload_n 2, 1) := by decide +kernel
theorem dX6_round_19 : decode cX6_round 19 = .ok (.bipush 60, 2) := by decide +kernel
theorem dX6_round_21 : decode cX6_round 21 = .ok (.if_icmp .gt 75, 3) := by decide +kernel
theorem dX6_round_24 : decode cX6_round 24 = .ok (.iload_n 1, 1) := by decide +kernel
theorem dX6_round_25 : decode cX6_round 25 = .ok (.iconst (-1), 1) := by decide +kernel
theorem dX6_round_26 : decode cX6_round 26 = .ok (.if_icmp .ne 70, 3) := by decide +kernel
theorem dX6_round_29 : decode cX6_round 29 = .ok (.aload_n 0, 1) := by decide +kernel
theorem dX6_round_30 : decode cX6_round 30 = .ok (.invokevirtual 369, 3) := by decide +kernel
theorem dX6_round_33 : decode cX6_round 33 = .ok (.iconst 1, 1) := by decide +kernel
theorem dX6_round_34 : decode cX6_round 34 = .ok (.istore_n 3, 1) := by decide +kernel
theorem dX6_round_35 : decode cX6_round 35 = .ok (.iconst 0, 1) := by decide +kernel
theorem dX6_round_36 : decode cX6_round 36 = .ok (.istore 4, 2) := by decide +kernel
theorem dX6_round_38 : decode cX6_round 38 = .ok (.iload 4, 2) := by decide +kernel
theorem dX6_round_40 : decode cX6_round 40 = .ok (.aload_n 0, 1) := by decide +kernel
theorem dX6_round_41 : decode cX6_round 41 = .ok (.getfield 42, 3) := by decide +kernel
theorem dX6_round_44 : decode cX6_round 44 = .ok (.iconst 0, 1) := by decide +kernel
theorem dX6_round_45 : decode cX6_round 45 = .ok (.iaload, 1) := by decide +kernel
theorem dX6_round_46 : decode cX6_round 46 = .ok (.if_icmp .ge 38, 3) := by decide +kernel
theorem dX6_round_49 : decode cX6_round 49 = .ok (.iload_n 3, 1) := by decide +kernel
theorem dX6_round_50 : decode cX6_round 50 = .ok (.ifCond .eq 26, 3) := by decide +kernel
theorem dX6_round_53 : decode cX6_round 53 = .ok (.aload_n 0, 1) := by decide +kernel
theorem dX6_round_54 : decode cX6_round 54 = .ok (.getfield 82, 3) := by decide +kernel
theorem dX6_round_57 : decode cX6_round 57 = .ok (.iload 4, 2) := by decide +kernel
theorem dX6_round_59 : decode cX6_round 59 = .ok (.iaload, 1) := by decide +kernel
theorem dX6_round_60 : decode cX6_round 60 = .ok (.aload_n 0, 1) := by decide +kernel
theorem dX6_round_61 : decode cX6_round 61 = .ok (.getfield 103, 3) := by decide +kernel
theorem dX6_round_64 : decode cX6_round 64 = .ok (.iconst 3, 1) := by decide +kernel
theorem dX6_round_65 : decode cX6_round 65 = .ok (.iload 4, 2) := by decide +kernel
theorem dX6_round_67 : decode cX6_round 67 = .ok (.iadd, 1) := by decide +kernel
theorem dX6_round_68 : decode cX6_round 68 = .ok (.iaload, 1) := by decide +kernel
theorem dX6_round_69 : decode cX6_round 69 = .ok (.if_icmp .ne 7, 3) := by decide +kernel
theorem dX6_round_72 : decode cX6_round 72 = .ok (.iconst 1, 1) := by decide +kernel
theorem dX6_round_73 : decode cX6_round 73 = .ok (.goto 4, 3) := by decide +kernel
theorem dX6_round_76 : decode cX6_round 76 = .ok (.iconst 0, 1) := by decide +kernel
theorem dX6_round_77 : decode cX6_round 77 = .ok (.istore_n 3, 1) := by decide +kernel
theorem dX6_round_78 : decode cX6_round 78 = .ok (.iinc 4 1, 3) := by decide +kernel
theorem dX6_round_81 : decode cX6_round 81 = .ok (.goto (-43), 3) := by decide +kernel
theorem dX6_round_84 : decode cX6_round 84 = .ok (.iload_n 3, 1) := by decide +kernel
theorem dX6_round_85 : decode cX6_round 85 = .ok (.ifCond .eq 5, 3) := by decide +kernel
theorem dX6_round_88 : decode cX6_round 88 = .ok (.iload_n 2, 1) := by decide +kernel
theorem dX6_round_89 : decode cX6_round 89 = .ok (.istore_n 1, 1) := by decide +kernel
theorem dX6_round_90 : decode cX6_round 90 = .ok (.iinc 2 1, 3) := by decide +kernel
theorem dX6_round_93 : decode cX6_round 93 = .ok (.goto (-75), 3) := by decide +kernel
theorem dX6_round_96 : decode cX6_round 96 = .ok (.aload_n 0, 1) := by decide +kernel
theorem dX6_round_97 : decode cX6_round 97 = .ok (.aload_n 0, 1) := by decide +kernel
theorem dX6_round_98 : decode cX6_round 98 = .ok (.getfield 103, 3) := by decide +kernel
theorem dX6_round_101 : decode cX6_round 101 = .ok (.iconst 0, 1) := by decide +kernel
theorem dX6_round_102 : decode cX6_round 102 = .ok (.invokevirtual 376, 3) := by decide +kernel
theorem dX6_round_105 : decode cX6_round 105 = .ok (.iload_n 1, 1) := by decide +kernel
theorem dX6_round_106 : decode cX6_round 106 = .ok (.ireturn, 1) := by decide +kernel
theorem dX6_pleased_0 : decode cX6_pleased 0 = .ok (.aload_n 0, 1) := by decide +kernel
theorem dX6_pleased_1 : decode cX6_pleased 1 = .ok (.iconst 0, 1) := by decide +kernel
theorem dX6_pleased_2 : decode cX6_pleased 2 = .ok (.putfield 157, 3) := by decide +kernel
theorem dX6_pleased_5 : decode cX6_pleased 5 = .ok (.iload_n 1, 1) := by decide +kernel
theorem dX6_pleased_6 : decode cX6_pleased 6 = .ok (.i2l, 1) := by decide +kernel
theorem dX6_pleased_7 : decode cX6_pleased 7 = .ok (.lconst 1, 1) := by decide +kernel
theorem dX6_pleased_8 : decode cX6_pleased 8 = .ok (.ldc2_w 419, 3) := by decide +kernel
theorem dX6_pleased_11 : decode cX6_pleased 11 = .ok (.invokestatic 160, 3) := by decide +kernel
theorem dX6_pleased_14 : decode cX6_pleased 14 = .ok (.ifCond .ne 9, 3) := by decide +kernel
theorem dX6_pleased_17 : decode cX6_pleased 17 = .ok (.aload_n 0, 1) := by decide +kernel
theorem dX6_pleased_18 : decode cX6_pleased 18 = .ok (.iconst 1, 1) := by decide +kernel
theorem dX6_pleased_19 : decode cX6_pleased 19 = .ok (.invokevirtual 300, 3) := by decide +kernel
theorem dX6_pleased_22 : decode cX6_pleased 22 = .ok (.ireturn, 1) := by decide +kernel
theorem dX6_pleased_23 : decode cX6_pleased 23 = .ok (.aload_n 0, 1) := by decide +kernel
theorem dX6_pleased_24 : decode cX6_pleased 24 = .ok (.iload_n 1, 1) := by decide +kernel
theorem dX6_pleased_25 : decode cX6_pleased 25 = .ok (.invokevirtual 430, 3) := by decide +kernel
theorem dX6_pleased_28 : decode cX6_pleased 28 = .ok (.iconst (-1), 1) := by decide +kernel
theorem dX6_pleased_29 : decode cX6_pleased 29 = .ok (.istore_n 2, 1) := by decide +kernel
theorem dX6_pleased_30 : decode cX6_pleased 30 = .ok (.iconst 0, 1) := by decide +kernel
theorem dX6_pleased_31 : decode cX6_pleased 31 = .ok (.istore_n 3, 1) := by decide +kernel
theorem dX6_pleased_32 : decode cX6_pleased 32 = .ok (.iload_n 3, 1) := by decide +kernel
theorem dX6_pleased_33 : decode cX6_pleased 33 = .ok (.aload_n 0, 1) := by decide +kernel
theorem dX6_pleased_34 : decode cX6_pleased 34 = .ok (.getfield 42, 3) := by decide +kernel
theorem dX6_pleased_37 : decode cX6_pleased 37 = .ok (.iconst 1, 1) := by decide +kernel
theorem dX6_pleased_38 : decode cX6_pleased 38 = .ok (.iaload, 1) := by decide +kernel
theorem dX6_pleased_39 : decode cX6_pleased 39 = .ok (.if_icmp .ge 41, 3) := by decide +kernel
theorem dX6_pleased_42 : decode cX6_pleased 42 = .ok (.iload_n 2, 1) := by decide +kernel
theorem dX6_pleased_43 : decode cX6_pleased 43 = .ok (.iconst (-1), 1) := by decide +kernel
theorem dX6_pleased_44 : decode cX6_pleased 44 = .ok (.if_icmp .eq 28, 3) := by decide +kernel
theorem dX6_pleased_47 : decode cX6_pleased 47 = .ok (.aload_n 0, 1) := by decide +kernel
theorem dX6_pleased_48 : decode cX6_pleased 48 = .ok (.getfield 106, 3) := by decide +kernel
theorem dX6_pleased_51 : decode cX6_pleased 51 = .ok (.aload_n 0, 1) := by decide +kernel
theorem dX6_pleased_52 : decode cX6_pleased 52 = .ok (.getfield 61, 3) := by decide +kernel
theorem dX6_pleased_55 : decode cX6_pleased 55 = .ok (.iload_n 3, 1) := by decide +kernel
theorem dX6_pleased_56 : decode cX6_pleased 56 = .ok (.iaload, 1) := by decide +kernel
theorem dX6_pleased_57 : decode cX6_pleased 57 = .ok (.iaload, 1) := by decide +kernel
theorem dX6_pleased_58 : decode cX6_pleased 58 = .ok (.aload_n 0, 1) := by decide +kernel
theorem dX6_pleased_59 : decode cX6_pleased 59 = .ok (.getfield 106, 3) := by decide +kernel
theorem dX6_pleased_62 : decode cX6_pleased 62 = .ok (.aload_n 0, 1) := by decide +kernel
theorem dX6_pleased_63 : decode cX6_pleased 63 = .ok (.getfield 61, 3) := by decide +kernel
theorem dX6_pleased_66 : decode cX6_pleased 66 = .ok (.iload_n 2, 1) := by decide +kernel
theorem dX6_pleased_67 : decode cX6_pleased 67 = .ok (.iaload, 1) := by decide +kernel
theorem dX6_pleased_68 : decode cX6_pleased 68 = .ok (.iaload, 1) := by decide +kernel
theorem dX6_pleased_69 : decode cX6_pleased 69 = .ok (.if_icmp .le 5, 3) := by decide +kernel
theorem dX6_pleased_72 : decode cX6_pleased 72 = .ok (.iload_n 3, 1) := by decide +kernel
theorem dX6_pleased_73 : decode cX6_pleased 73 = .ok (.istore_n 2, 1) := by decide +kernel
theorem dX6_pleased_74 : decode cX6_pleased 74 = .ok (.iinc 3 1, 3) := by decide +kernel
theorem dX6_pleased_77 : decode cX6_pleased 77 = .ok (.goto (-45), 3) := by decide +kernel
theorem dX6_pleased_80 : decode cX6_pleased 80 = .ok (.iload_n 2, 1) := by decide +kernel
theorem dX6_pleased_81 : decode cX6_pleased 81 = .ok (.ireturn, 1) := by decide +kernel
theorem dX6_swept_0 : decode cX6_swept 0 = .ok (.aload_n 0, 1) := by decide +kernel
theorem dX6_swept_1 : decode cX6_swept 1 = .ok (.iconst 0, 1) := by decide +kernel
theorem dX6_swept_2 : decode cX6_swept 2 = .ok (.putfield 157, 3) := by decide +kernel
theorem dX6_swept_5 : decode cX6_swept 5 = .ok (.iload_n 1, 1) := by decide +kernel
theorem dX6_swept_6 : decode cX6_swept 6 = .ok (.i2l, 1) := by decide +kernel
theorem dX6_swept_7 : decode cX6_swept 7 = .ok (.lconst 0, 1) := by decide +kernel
theorem dX6_swept_8 : decode cX6_swept 8 = .ok (.ldc2_w 419, 3) := by decide +kernel
theorem dX6_swept_11 : decode cX6_swept 11 = .ok (.invokestatic 160, 3) := by decide +kernel
theorem dX6_swept_14 : decode cX6_swept 14 = .ok (.ifCond .ne 9, 3) := by decide +kernel
theorem dX6_swept_17 : decode cX6_swept 17 = .ok (.aload_n 0, 1) := by decide +kernel
theorem dX6_swept_18 : decode cX6_swept 18 = .ok (.iconst 1, 1) := by decide +kernel
theorem dX6_swept_19 : decode cX6_swept 19 = .ok (.invokevirtual 300, 3) := by decide +kernel
theorem dX6_swept_22 : decode cX6_swept 22 = .ok (.ireturn, 1) := by decide +kernel
theorem dX6_swept_23 : decode cX6_swept 23 = .ok (.iconst 0, 1) := by decide +kernel
theorem dX6_swept_24 : decode cX6_swept 24 = .ok (.istore_n 2, 1) := by decide +kernel
theorem dX6_swept_25 : decode cX6_swept 25 = .ok (.aload_n 0, 1) := by decide +kernel
theorem dX6_swept_26 : decode cX6_swept 26 = .ok (.aload_n 0, 1) := by decide +kernel
theorem dX6_swept_27 : decode cX6_swept 27 = .ok (.getfield 103, 3) := by decide +kernel
theorem dX6_swept_30 : decode cX6_swept 30 = .ok (.iconst 0, 1) := by decide +kernel
theorem dX6_swept_31 : decode cX6_swept 31 = .ok (.invokevirtual 372, 3) := by decide +kernel
theorem dX6_swept_34 : decode cX6_swept 34 = .ok (.iconst 0, 1) := by decide +kernel
theorem dX6_swept_35 : decode cX6_swept 35 = .ok (.istore_n 3, 1) := by decide +kernel
theorem dX6_swept_36 : decode cX6_swept 36 = .ok (.iload_n 3, 1) := by decide +kernel
theorem dX6_swept_37 : decode cX6_swept 37 = .ok (.iload_n 1, 1) := by decide +kernel
theorem dX6_swept_38 : decode cX6_swept 38 = .ok (.if_icmp .gt 49, 3) := by decide +kernel
theorem dX6_swept_41 : decode cX6_swept 41 = .ok (.iload_n 3, 1) := by decide +kernel
theorem dX6_swept_42 : decode cX6_swept 42 = .ok (.ifCond .le 7, 3) := by decide +kernel
theorem dX6_swept_45 : decode cX6_swept 45 = .ok (.aload_n 0, 1) := by decide +kernel
theorem dX6_swept_46 : decode cX6_swept 46 = .ok (.invokevirtual 369, 3) := by decide +kernel
theorem dX6_swept_49 : decode cX6_swept 49 = .ok (.iconst 0, 1) := by decide +kernel
theorem dX6_swept_50 : decode cX6_swept 50 = .ok (.istore 4, 2) := by decide +kernel
theorem dX6_swept_52 : decode cX6_swept 52 = .ok (.iload 4, 2) := by decide +kernel
theorem dX6_swept_54 : decode cX6_swept 54 = .ok (.aload_n 0, 1) := by decide +kernel
theorem dX6_swept_55 : decode cX6_swept 55 = .ok (.getfield 42, 3) := by decide +kernel
theorem dX6_swept_58 : decode cX6_swept 58 = .ok (.iconst 0, 1) := by decide +kernel
theorem dX6_swept_59 : decode cX6_swept 59 = .ok (.iaload, 1) := by decide +kernel
theorem dX6_swept_60 : decode cX6_swept 60 = .ok (.if_icmp .ge 21, 3) := by decide +kernel
theorem dX6_swept_63 : decode cX6_swept 63 = .ok (.iload_n 2, 1) := by decide +kernel
theorem dX6_swept_64 : decode cX6_swept 64 = .ok (.iconst 1, 1) := by decide +kernel
theorem dX6_swept_65 : decode cX6_swept 65 = .ok (.aload_n 0, 1) := by decide +kernel
theorem dX6_swept_66 : decode cX6_swept 66 = .ok (.getfield 82, 3) := by decide +kernel
theorem dX6_swept_69 : decode cX6_swept 69 = .ok (.iload 4, 2) := by decide +kernel
theorem dX6_swept_71 : decode cX6_swept 71 = .ok (.iaload, 1) := by decide +kernel
theorem dX6_swept_72 : decode cX6_swept 72 = .ok (.ishl, 1) := by decide +kernel
theorem dX6_swept_73 : decode cX6_swept 73 = .ok (.ior, 1) := by decide +kernel
theorem dX6_swept_74 : decode cX6_swept 74 = .ok (.istore_n 2, 1) := by decide +kernel
theorem dX6_swept_75 : decode cX6_swept 75 = .ok (.iinc 4 1, 3) := by decide +kernel
theorem dX6_swept_78 : decode cX6_swept 78 = .ok (.goto (-26), 3) := by decide +kernel
theorem dX6_swept_81 : decode cX6_swept 81 = .ok (.iinc 3 1, 3) := by decide +kernel
theorem dX6_swept_84 : decode cX6_swept 84 = .ok (.goto (-48), 3) := by decide +kernel
theorem dX6_swept_87 : decode cX6_swept 87 = .ok (.aload_n 0, 1) := by decide +kernel
theorem dX6_swept_88 : decode cX6_swept 88 = .ok (.aload_n 0, 1) := by decide +kernel
theorem dX6_swept_89 : decode cX6_swept 89 = .ok (.getfield 103, 3) := by decide +kernel
theorem dX6_swept_92 : decode cX6_swept 92 = .ok (.iconst 0, 1) := by decide +kernel
theorem dX6_swept_93 : decode cX6_swept 93 = .ok (.invokevirtual 376, 3) := by decide +kernel
theorem dX6_swept_96 : decode cX6_swept 96 = .ok (.iload_n 2, 1) := by decide +kernel
theorem dX6_swept_97 : decode cX6_swept 97 = .ok (.ireturn, 1) := by decide +kernel
theorem dX6_drunk_0 : decode cX6_drunk 0 = .ok (.aload_n 0, 1) := by decide +kernel
theorem dX6_drunk_1 : decode cX6_drunk 1 = .ok (.iconst 0, 1) := by decide +kernel
theorem dX6_drunk_2 : decode cX6_drunk 2 = .ok (.putfield 157, 3) := by decide +kernel
theorem dX6_drunk_5 : decode cX6_drunk 5 = .ok (.aload_n 0, 1) := by decide +kernel
theorem dX6_drunk_6 : decode cX6_drunk 6 = .ok (.iload_n 1, 1) := by decide +kernel
theorem dX6_drunk_7 : decode cX6_drunk 7 = .ok (.invokevirtual 385, 3) := by decide +kernel
theorem dX6_drunk_10 : decode cX6_drunk 10 = .ok (.ifCond .ne 9, 3) := by decide +kernel
theorem dX6_drunk_13 : decode cX6_drunk 13 = .ok (.aload_n 0, 1) := by decide +kernel
theorem dX6_drunk_14 : decode cX6_drunk 14 = .ok (.iconst 1, 1) := by decide +kernel
theorem dX6_drunk_15 : decode cX6_drunk 15 = .ok (.invokevirtual 300, 3) := by decide +kernel
theorem dX6_drunk_18 : decode cX6_drunk 18 = .ok (.ireturn, 1) := by decide +kernel
theorem dX6_drunk_19 : decode cX6_drunk 19 = .ok (.iload_n 2, 1) := by decide +kernel
theorem dX6_drunk_20 : decode cX6_drunk 20 = .ok (.i2l, 1) := by decide +kernel
theorem dX6_drunk_21 : decode cX6_drunk 21 = .ok (.lconst 1, 1) := by decide +kernel
theorem dX6_drunk_22 : decode cX6_drunk 22 = .ok (.ldc2_w 419, 3) := by decide +kernel
theorem dX6_drunk_25 : decode cX6_drunk 25 = .ok (.invokestatic 160, 3) := by decide +kernel
theorem dX6_drunk_28 : decode cX6_drunk 28 = .ok (.ifCond .ne 9, 3) := by decide +kernel
theorem dX6_drunk_31 : decode cX6_drunk 31 = .ok (.aload_n 0, 1) := by decide +kernel
theorem dX6_drunk_32 : decode cX6_drunk 32 = .ok (.iconst 2, 1) := by decide +kernel
theorem dX6_drunk_33 : decode cX6_drunk 33 = .ok (.invokevirtual 300, 3) := by decide +kernel
theorem dX6_drunk_36 : decode cX6_drunk 36 = .ok (.ireturn, 1) := by decide +kernel
theorem dX6_drunk_37 : decode cX6_drunk 37 = .ok (.aload_n 0, 1) := by decide +kernel
theorem dX6_drunk_38 : decode cX6_drunk 38 = .ok (.aload_n 0, 1) := by decide +kernel
theorem dX6_drunk_39 : decode cX6_drunk 39 = .ok (.getfield 103, 3) := by decide +kernel
theorem dX6_drunk_42 : decode cX6_drunk 42 = .ok (.iconst 0, 1) := by decide +kernel
theorem dX6_drunk_43 : decode cX6_drunk 43 = .ok (.invokevirtual 372, 3) := by decide +kernel
theorem dX6_drunk_46 : decode cX6_drunk 46 = .ok (.aload_n 0, 1) := by decide +kernel
theorem dX6_drunk_47 : decode cX6_drunk 47 = .ok (.iload_n 2, 1) := by decide +kernel
theorem dX6_drunk_48 : decode cX6_drunk 48 = .ok (.invokevirtual 405, 3) := by decide +kernel
theorem dX6_drunk_51 : decode cX6_drunk 51 = .ok (.aload_n 0, 1) := by decide +kernel
theorem dX6_drunk_52 : decode cX6_drunk 52 = .ok (.aload_n 0, 1) := by decide +kernel
theorem dX6_drunk_53 : decode cX6_drunk 53 = .ok (.getfield 103, 3) := by decide +kernel
theorem dX6_drunk_56 : decode cX6_drunk 56 = .ok (.iconst 0, 1) := by decide +kernel
theorem dX6_drunk_57 : decode cX6_drunk 57 = .ok (.invokevirtual 376, 3) := by decide +kernel
theorem dX6_drunk_60 : decode cX6_drunk 60 = .ok (.aload_n 0, 1) := by decide +kernel
theorem dX6_drunk_61 : decode cX6_drunk 61 = .ok (.getfield 100, 3) := by decide +kernel
theorem dX6_drunk_64 : decode cX6_drunk 64 = .ok (.iload_n 1, 1) := by decide +kernel
theorem dX6_drunk_65 : decode cX6_drunk 65 = .ok (.iaload, 1) := by decide +kernel
theorem dX6_drunk_66 : decode cX6_drunk 66 = .ok (.ireturn, 1) := by decide +kernel
theorem dX6_thirstiest_0 : decode cX6_thirstiest 0 = .ok (.aload_n 0, 1) := by decide +kernel
theorem dX6_thirstiest_1 : decode cX6_thirstiest 1 = .ok (.iconst 0, 1) := by decide +kernel
theorem dX6_thirstiest_2 : decode cX6_thirstiest 2 = .ok (.putfield 157, 3) := by decide +kernel
theorem dX6_thirstiest_5 : decode cX6_thirstiest 5 = .ok (.iload_n 1, 1) := by decide +kernel
theorem dX6_thirstiest_6 : decode cX6_thirstiest 6 = .ok (.i2l, 1) := by decide +kernel
theorem dX6_thirstiest_7 : decode cX6_thirstiest 7 = .ok (.lconst 1, 1) := by decide +kernel
theorem dX6_thirstiest_8 : decode cX6_thirstiest 8 = .ok (.ldc2_w 419, 3) := by decide +kernel
theorem dX6_thirstiest_11 : decode cX6_thirstiest 11 = .ok (.invokestatic 160, 3) := by decide +kernel
theorem dX6_thirstiest_14 : decode cX6_thirstiest 14 = .ok (.ifCond .ne 9, 3) := by decide +kernel
theorem dX6_thirstiest_17 : decode cX6_thirstiest 17 = .ok (.aload_n 0, 1) := by decide +kernel
theorem dX6_thirstiest_18 : decode cX6_thirstiest 18 = .ok (.iconst 1, 1) := by decide +kernel
theorem dX6_thirstiest_19 : decode cX6_thirstiest 19 = .ok (.invokevirtual 300, 3) := by decide +kernel
theorem dX6_thirstiest_22 : decode cX6_thirstiest 22 = .ok (.ireturn, 1) := by decide +kernel
theorem dX6_thirstiest_23 : decode cX6_thirstiest 23 = .ok (.iconst 0, 1) := by decide +kernel
theorem dX6_thirstiest_24 : decode cX6_thirstiest 24 = .ok (.istore_n 2, 1) := by decide +kernel
theorem dX6_thirstiest_25 : decode cX6_thirstiest 25 = .ok (.iload_n 2, 1) := by decide +kernel
theorem dX6_thirstiest_26 : decode cX6_thirstiest 26 = .ok (.bipush 8, 2) := by decide +kernel
theorem dX6_thirstiest_28 : decode cX6_thirstiest 28 = .ok (.if_icmp .ge 16, 3) := by decide +kernel
theorem dX6_thirstiest_31 : decode cX6_thirstiest 31 = .ok (.aload_n 0, 1) := by decide +kernel
theorem dX6_thirstiest_32 : decode cX6_thirstiest 32 = .ok (.getfield 109, 3) := by decide +kernel
theorem dX6_thirstiest_35 : decode cX6_thirstiest 35 = .ok (.iload_n 2, 1) := by decide +kernel
theorem dX6_thirstiest_36 : decode cX6_thirstiest 36 = .ok (.iconst 0, 1) := by decide +kernel
theorem dX6_thirstiest_37 : decode cX6_thirstiest 37 = .ok (.iastore, 1) := by decide +kernel
theorem dX6_thirstiest_38 : decode cX6_thirstiest 38 = .ok (.iinc 2 1, 3) := by decide +kernel
theorem dX6_thirstiest_41 : decode cX6_thirstiest 41 = .ok (.goto (-16), 3) := by decide +kernel
theorem dX6_thirstiest_44 : decode cX6_thirstiest 44 = .ok (.aload_n 0, 1) := by decide +kernel
theorem dX6_thirstiest_45 : decode cX6_thirstiest 45 = .ok (.aload_n 0, 1) := by decide +kernel
theorem dX6_thirstiest_46 : decode cX6_thirstiest 46 = .ok (.getfield 103, 3) := by decide +kernel
theorem dX6_thirstiest_49 : decode cX6_thirstiest 49 = .ok (.iconst 0, 1) := by decide +kernel
theorem dX6_thirstiest_50 : decode cX6_thirstiest 50 = .ok (.invokevirtual 372, 3) := by decide +kernel
theorem dX6_thirstiest_53 : decode cX6_thirstiest 53 = .ok (.iconst 0, 1) := by decide +kernel
theorem dX6_thirstiest_54 : decode cX6_thirstiest 54 = .ok (.istore_n 2, 1) := by decide +kernel
theorem dX6_thirstiest_55 : decode cX6_thirstiest 55 = .ok (.iload_n 2, 1) := by decide +kernel
theorem dX6_thirstiest_56 : decode cX6_thirstiest 56 = .ok (.iload_n 1, 1) := by decide +kernel
theorem dX6_thirstiest_57 : decode cX6_thirstiest 57 = .ok (.if_icmp .ge 46, 3) := by decide +kernel
theorem dX6_thirstiest_60 : decode cX6_thirstiest 60 = .ok (.aload_n 0, 1) := by decide +kernel
theorem dX6_thirstiest_61 : decode cX6_thirstiest 61 = .ok (.invokevirtual 369, 3) := by decide +kernel
theorem dX6_thirstiest_64 : decode cX6_thirstiest 64 = .ok (.iconst 0, 1) := by decide +kernel
theorem dX6_thirstiest_65 : decode cX6_thirstiest 65 = .ok (.istore_n 3, 1) := by decide +kernel
theorem dX6_thirstiest_66 : decode cX6_thirstiest 66 = .ok (.iload_n 3, 1) := by decide +kernel
theorem dX6_thirstiest_67 : decode cX6_thirstiest 67 = .ok (.aload_n 0, 1) := by decide +kernel
theorem dX6_thirstiest_68 : decode cX6_thirstiest 68 = .ok (.getfield 42, 3) := by decide +kernel
theorem dX6_thirstiest_71 : decode cX6_thirstiest 71 = .ok (.iconst 1, 1) := by decide +kernel
theorem dX6_thirstiest_72 : decode cX6_thirstiest 72 = .ok (.iaload, 1) := by decide +kernel
theorem dX6_thirstiest_73 : decode cX6_thirstiest 73 = .ok (.if_icmp .ge 24, 3) := by decide +kernel
theorem dX6_thirstiest_76 : decode cX6_thirstiest 76 = .ok (.aload_n 0, 1) := by decide +kernel
theorem dX6_thirstiest_77 : decode cX6_thirstiest 77 = .ok (.getfield 109, 3) := by decide +kernel
theorem dX6_thirstiest_80 : decode cX6_thirstiest 80 = .ok (.iload_n 3, 1) := by decide +kernel
theorem dX6_thirstiest_81 : decode cX6_thirstiest 81 = .ok (.dup2, 1) := by decide +kernel
theorem dX6_thirstiest_82 : decode cX6_thirstiest 82 = .ok (.iaload, 1) := by decide +kernel
theorem dX6_thirstiest_83 : decode cX6_thirstiest 83 = .ok (.aload_n 0, 1) := by decide +kernel
theorem dX6_thirstiest_84 : decode cX6_thirstiest 84 = .ok (.getfield 100, 3) := by decide +kernel
theorem dX6_thirstiest_87 : decode cX6_thirstiest 87 = .ok (.iload_n 3, 1) := by decide +kernel
theorem dX6_thirstiest_88 : decode cX6_thirstiest 88 = .ok (.iaload, 1) := by decide +kernel
theorem dX6_thirstiest_89 : decode cX6_thirstiest 89 = .ok (.iadd, 1) := by decide +kernel
theorem dX6_thirstiest_90 : decode cX6_thirstiest 90 = .ok (.iastore, 1) := by decide +kernel
theorem dX6_thirstiest_91 : decode cX6_thirstiest 91 = .ok (.iinc 3 1, 3) := by decide +kernel
theorem dX6_thirstiest_94 : decode cX6_thirstiest 94 = .ok (.goto (-28), 3) := by decide +kernel
theorem dX6_thirstiest_97 : decode cX6_thirstiest 97 = .ok (.iinc 2 1, 3) := by decide +kernel
theorem dX6_thirstiest_100 : decode cX6_thirstiest 100 = .ok (.goto (-45), 3) := by decide +kernel
theorem dX6_thirstiest_103 : decode cX6_thirstiest 103 = .ok (.aload_n 0, 1) := by decide +kernel
theorem dX6_thirstiest_104 : decode cX6_thirstiest 104 = .ok (.aload_n 0, 1) := by decide +kernel
theorem dX6_thirstiest_105 : decode cX6_thirstiest 105 = .ok (.getfield 103, 3) := by decide +kernel
theorem dX6_thirstiest_108 : decode cX6_thirstiest 108 = .ok (.iconst 0, 1) := by decide +kernel
theorem dX6_thirstiest_109 : decode cX6_thirstiest 109 = .ok (.invokevirtual 376, 3) := by decide +kernel
theorem dX6_thirstiest_112 : decode cX6_thirstiest 112 = .ok (.iconst (-1), 1) := by decide +kernel
theorem dX6_thirstiest_113 : decode cX6_thirstiest 113 = .ok (.istore_n 2, 1) := by decide +kernel
theorem dX6_thirstiest_114 : decode cX6_thirstiest 114 = .ok (.iconst 0, 1) := by decide +kernel
theorem dX6_thirstiest_115 : decode cX6_thirstiest 115 = .ok (.istore_n 3, 1) := by decide +kernel
theorem dX6_thirstiest_116 : decode cX6_thirstiest 116 = .ok (.iload_n 3, 1) := by decide +kernel
theorem dX6_thirstiest_117 : decode cX6_thirstiest 117 = .ok (.aload_n 0, 1) := by decide +kernel
theorem dX6_thirstiest_118 : decode cX6_thirstiest 118 = .ok (.getfield 42, 3) := by decide +kernel
theorem dX6_thirstiest_121 : decode cX6_thirstiest 121 = .ok (.iconst 1, 1) := by decide +kernel
theorem dX6_thirstiest_122 : decode cX6_thirstiest 122 = .ok (.iaload, 1) := by decide +kernel
theorem dX6_thirstiest_123 : decode cX6_thirstiest 123 = .ok (.if_icmp .ge 31, 3) := by decide +kernel
theorem dX6_thirstiest_126 : decode cX6_thirstiest 126 = .ok (.iload_n 2, 1) := by decide +kernel
theorem dX6_thirstiest_127 : decode cX6_thirstiest 127 = .ok (.iconst (-1), 1) := by decide +kernel
theorem dX6_thirstiest_128 : decode cX6_thirstiest 128 = .ok (.if_icmp .eq 18, 3) := by decide +kernel
theorem dX6_thirstiest_131 : decode cX6_thirstiest 131 = .ok (.aload_n 0, 1) := by decide +kernel
theorem dX6_thirstiest_132 : decode cX6_thirstiest 132 = .ok (.getfield 109, 3) := by decide +kernel
theorem dX6_thirstiest_135 : decode cX6_thirstiest 135 = .ok (.iload_n 3, 1) := by decide +kernel
theorem dX6_thirstiest_136 : decode cX6_thirstiest 136 = .ok (.iaload, 1) := by decide +kernel
theorem dX6_thirstiest_137 : decode cX6_thirstiest 137 = .ok (.aload_n 0, 1) := by decide +kernel
theorem dX6_thirstiest_138 : decode cX6_thirstiest 138 = .ok (.getfield 109, 3) := by decide +kernel
theorem dX6_thirstiest_141 : decode cX6_thirstiest 141 = .ok (.iload_n 2, 1) := by decide +kernel
theorem dX6_thirstiest_142 : decode cX6_thirstiest 142 = .ok (.iaload, 1) := by decide +kernel
theorem dX6_thirstiest_143 : decode cX6_thirstiest 143 = .ok (.if_icmp .le 5, 3) := by decide +kernel
theorem dX6_thirstiest_146 : decode cX6_thirstiest 146 = .ok (.iload_n 3, 1) := by decide +kernel
theorem dX6_thirstiest_147 : decode cX6_thirstiest 147 = .ok (.istore_n 2, 1) := by decide +kernel
theorem dX6_thirstiest_148 : decode cX6_thirstiest 148 = .ok (.iinc 3 1, 3) := by decide +kernel
theorem dX6_thirstiest_151 : decode cX6_thirstiest 151 = .ok (.goto (-35), 3) := by decide +kernel
theorem dX6_thirstiest_154 : decode cX6_thirstiest 154 = .ok (.iload_n 2, 1) := by decide +kernel
theorem dX6_thirstiest_155 : decode cX6_thirstiest 155 = .ok (.ireturn, 1) := by decide +kernel
theorem dX6_seatFrom_0 : decode cX6_seatFrom 0 = .ok (.iload_n 1, 1) := by decide +kernel
theorem dX6_seatFrom_1 : decode cX6_seatFrom 1 = .ok (.aload_n 0, 1) := by decide +kernel
theorem dX6_seatFrom_2 : decode cX6_seatFrom 2 = .ok (.getfield 42, 3) := by decide +kernel
theorem dX6_seatFrom_5 : decode cX6_seatFrom 5 = .ok (.iconst 1, 1) := by decide +kernel
theorem dX6_seatFrom_6 : decode cX6_seatFrom 6 = .ok (.iaload, 1) := by decide +kernel
theorem dX6_seatFrom_7 : decode cX6_seatFrom 7 = .ok (.if_icmp .ne 46, 3) := by decide +kernel
theorem dX6_seatFrom_10 : decode cX6_seatFrom 10 = .ok (.aload_n 0, 1) := by decide +kernel
theorem dX6_seatFrom_11 : decode cX6_seatFrom 11 = .ok (.invokevirtual 433, 3) := by decide +kernel
theorem dX6_seatFrom_14 : decode cX6_seatFrom 14 = .ok (.iload_n 3, 1) := by decide +kernel
theorem dX6_seatFrom_15 : decode cX6_seatFrom 15 = .ok (.if_icmp .eq 4, 3) := by decide +kernel
theorem dX6_seatFrom_18 : decode cX6_seatFrom 18 = .ok (.return_, 1) := by decide +kernel
theorem dX6_seatFrom_19 : decode cX6_seatFrom 19 = .ok (.aload_n 0, 1) := by decide +kernel
theorem dX6_seatFrom_20 : decode cX6_seatFrom 20 = .ok (.dup, 1) := by decide +kernel
theorem dX6_seatFrom_21 : decode cX6_seatFrom 21 = .ok (.getfield 436, 3) := by decide +kernel
theorem dX6_seatFrom_24 : decode cX6_seatFrom 24 = .ok (.iconst 1, 1) := by decide +kernel
theorem dX6_seatFrom_25 : decode cX6_seatFrom 25 = .ok (.iadd, 1) := by decide +kernel
theorem dX6_seatFrom_26 : decode cX6_seatFrom 26 = .ok (.putfield 436, 3) := by decide +kernel
theorem dX6_seatFrom_29 : decode cX6_seatFrom 29 = .ok (.aload_n 0, 1) := by decide +kernel
theorem dX6_seatFrom_30 : decode cX6_seatFrom 30 = .ok (.getfield 439, 3) := by decide +kernel
theorem dX6_seatFrom_33 : decode cX6_seatFrom 33 = .ok (.ifCond .ne 14, 3) := by decide +kernel
theorem dX6_seatFrom_36 : decode cX6_seatFrom 36 = .ok (.aload_n 0, 1) := by decide +kernel
theorem dX6_seatFrom_37 : decode cX6_seatFrom 37 = .ok (.getfield 112, 3) := by decide +kernel
theorem dX6_seatFrom_40 : decode cX6_seatFrom 40 = .ok (.aload_n 0, 1) := by decide +kernel
theorem dX6_seatFrom_41 : decode cX6_seatFrom 41 = .ok (.getfield 85, 3) := by decide +kernel
theorem dX6_seatFrom_44 : decode cX6_seatFrom 44 = .ok (.invokestatic 442, 3) := by decide +kernel
theorem dX6_seatFrom_47 : decode cX6_seatFrom 47 = .ok (.aload_n 0, 1) := by decide +kernel
theorem dX6_seatFrom_48 : decode cX6_seatFrom 48 = .ok (.iconst 1, 1) := by decide +kernel
theorem dX6_seatFrom_49 : decode cX6_seatFrom 49 = .ok (.putfield 439, 3) := by decide +kernel
theorem dX6_seatFrom_52 : decode cX6_seatFrom 52 = .ok (.return_, 1) := by decide +kernel
theorem dX6_seatFrom_53 : decode cX6_seatFrom 53 = .ok (.iconst 0, 1) := by decide +kernel
theorem dX6_seatFrom_54 : decode cX6_seatFrom 54 = .ok (.istore 4, 2) := by decide +kernel
theorem dX6_seatFrom_56 : decode cX6_seatFrom 56 = .ok (.iload 4, 2) := by decide +kernel
theorem dX6_seatFrom_58 : decode cX6_seatFrom 58 = .ok (.aload_n 0, 1) := by decide +kernel
theorem dX6_seatFrom_59 : decode cX6_seatFrom 59 = .ok (.getfield 42, 3) := by decide +kernel
theorem dX6_seatFrom_62 : decode cX6_seatFrom 62 = .ok (.iconst 1, 1) := by decide +kernel
theorem dX6_seatFrom_63 : decode cX6_seatFrom 63 = .ok (.iaload, 1) := by decide +kernel
theorem dX6_seatFrom_64 : decode cX6_seatFrom 64 = .ok (.if_icmp .ge 43, 3) := by decide +kernel
theorem dX6_seatFrom_67 : decode cX6_seatFrom 67 = .ok (.iload_n 2, 1) := by decide +kernel
theorem dX6_seatFrom_68 : decode cX6_seatFrom 68 = .ok (.iload 4, 2) := by decide +kernel
theorem dX6_seatFrom_70 : decode cX6_seatFrom 70 = .ok (.invokestatic 446, 3) := by decide +kernel
theorem dX6_seatFrom_73 : decode cX6_seatFrom 73 = .ok (.ifCond .eq 6, 3) := by decide +kernel
theorem dX6_seatFrom_76 : decode cX6_seatFrom 76 = .ok (.goto 25, 3) := by decide +kernel
theorem dX6_seatFrom_79 : decode cX6_seatFrom 79 = .ok (.aload_n 0, 1) := by decide +kernel
theorem dX6_seatFrom_80 : decode cX6_seatFrom 80 = .ok (.getfield 85, 3) := by decide +kernel
theorem dX6_seatFrom_83 : decode cX6_seatFrom 83 = .ok (.iload_n 1, 1) := by decide +kernel
theorem dX6_seatFrom_84 : decode cX6_seatFrom 84 = .ok (.iload 4, 2) := by decide +kernel
theorem dX6_seatFrom_86 : decode cX6_seatFrom 86 = .ok (.iastore, 1) := by decide +kernel
theorem dX6_seatFrom_87 : decode cX6_seatFrom 87 = .ok (.aload_n 0, 1) := by decide +kernel
theorem dX6_seatFrom_88 : decode cX6_seatFrom 88 = .ok (.iload_n 1, 1) := by decide +kernel
theorem dX6_seatFrom_89 : decode cX6_seatFrom 89 = .ok (.iconst 1, 1) := by decide +kernel
theorem dX6_seatFrom_90 : decode cX6_seatFrom 90 = .ok (.iadd, 1) := by decide +kernel
theorem dX6_seatFrom_91 : decode cX6_seatFrom 91 = .ok (.iload_n 2, 1) := by decide +kernel
theorem dX6_seatFrom_92 : decode cX6_seatFrom 92 = .ok (.iconst 1, 1) := by decide +kernel
theorem dX6_seatFrom_93 : decode cX6_seatFrom 93 = .ok (.iload 4, 2) := by decide +kernel
theorem dX6_seatFrom_95 : decode cX6_seatFrom 95 = .ok (.ishl, 1) := by decide +kernel
theorem dX6_seatFrom_96 : decode cX6_seatFrom 96 = .ok (.ior, 1) := by decide +kernel
theorem dX6_seatFrom_97 : decode cX6_seatFrom 97 = .ok (.iload_n 3, 1) := by decide +kernel
theorem dX6_seatFrom_98 : decode cX6_seatFrom 98 = .ok (.invokevirtual 449, 3) := by decide +kernel
theorem dX6_seatFrom_101 : decode cX6_seatFrom 101 = .ok (.iinc 4 1, 3) := by decide +kernel
theorem dX6_seatFrom_104 : decode cX6_seatFrom 104 = .ok (.goto (-48), 3) := by decide +kernel
theorem dX6_seatFrom_107 : decode cX6_seatFrom 107 = .ok (.return_, 1) := by decide +kernel
theorem dX6_orders_0 : decode cX6_orders 0 = .ok (.aload_n 0, 1) := by decide +kernel
theorem dX6_orders_1 : decode cX6_orders 1 = .ok (.iconst 0, 1) := by decide +kernel
theorem dX6_orders_2 : decode cX6_orders 2 = .ok (.putfield 157, 3) := by decide +kernel
theorem dX6_orders_5 : decode cX6_orders 5 = .ok (.iload_n 1, 1) := by decide +kernel
theorem dX6_orders_6 : decode cX6_orders 6 = .ok (.invokestatic 427, 3) := by decide +kernel
theorem dX6_orders_9 : decode cX6_orders 9 = .ok (.ifCond .eq 23, 3) := by decide +kernel
theorem dX6_orders_12 : decode cX6_orders 12 = .ok (.iload_n 2, 1) := by decide +kernel
theorem dX6_orders_13 : decode cX6_orders 13 = .ok (.i2l, 1) := by decide +kernel
theorem dX6_orders_14 : decode cX6_orders 14 = .ok (.ldc2_w 453, 3) := by decide +kernel
theorem dX6_orders_17 : decode cX6_orders 17 = .ok (.aload_n 0, 1) := by decide +kernel
theorem dX6_orders_18 : decode cX6_orders 18 = .ok (.getfield 42, 3) := by decide +kernel
theorem dX6_orders_21 : decode cX6_orders 21 = .ok (.iconst 1, 1) := by decide +kernel
theorem dX6_orders_22 : decode cX6_orders 22 = .ok (.iaload, 1) := by decide +kernel
theorem dX6_orders_23 : decode cX6_orders 23 = .ok (.iconst 1, 1) := by decide +kernel
theorem dX6_orders_24 : decode cX6_orders 24 = .ok (.isub, 1) := by decide +kernel
theorem dX6_orders_25 : decode cX6_orders 25 = .ok (.i2l, 1) := by decide +kernel
theorem dX6_orders_26 : decode cX6_orders 26 = .ok (.invokestatic 160, 3) := by decide +kernel
theorem dX6_orders_29 : decode cX6_orders 29 = .ok (.ifCond .ne 9, 3) := by decide +kernel
theorem dX6_orders_32 : decode cX6_orders 32 = .ok (.aload_n 0, 1) := by decide +kernel
theorem dX6_orders_33 : decode cX6_orders 33 = .ok (.iconst 1, 1) := by decide +kernel
theorem dX6_orders_34 : decode cX6_orders 34 = .ok (.invokevirtual 300, 3) := by decide +kernel
theorem dX6_orders_37 : decode cX6_orders 37 = .ok (.ireturn, 1) := by decide +kernel
theorem dX6_orders_38 : decode cX6_orders 38 = .ok (.aload_n 0, 1) := by decide +kernel
theorem dX6_orders_39 : decode cX6_orders 39 = .ok (.getfield 42, 3) := by decide +kernel
theorem dX6_orders_42 : decode cX6_orders 42 = .ok (.iconst 1, 1) := by decide +kernel
theorem dX6_orders_43 : decode cX6_orders 43 = .ok (.iaload, 1) := by decide +kernel
theorem dX6_orders_44 : decode cX6_orders 44 = .ok (.bipush 6, 2) := by decide +kernel
theorem dX6_orders_46 : decode cX6_orders 46 = .ok (.if_icmp .le 6, 3) := by decide +kernel
theorem dX6_orders_49 : decode cX6_orders 49 = .ok (.bipush (-2), 2) := by decide +kernel
theorem dX6_orders_51 : decode cX6_orders 51 = .ok (.ireturn, 1) := by decide +kernel
theorem dX6_orders_52 : decode cX6_orders 52 = .ok (.aload_n 0, 1) := by decide +kernel
theorem dX6_orders_53 : decode cX6_orders 53 = .ok (.iconst 0, 1) := by decide +kernel
theorem dX6_orders_54 : decode cX6_orders 54 = .ok (.putfield 436, 3) := by decide +kernel
theorem dX6_orders_57 : decode cX6_orders 57 = .ok (.aload_n 0, 1) := by decide +kernel
theorem dX6_orders_58 : decode cX6_orders 58 = .ok (.iconst 0, 1) := by decide +kernel
theorem dX6_orders_59 : decode cX6_orders 59 = .ok (.putfield 439, 3) := by decide +kernel
theorem dX6_orders_62 : decode cX6_orders 62 = .ok (.aload_n 0, 1) := by decide +kernel
theorem dX6_orders_63 : decode cX6_orders 63 = .ok (.getfield 115, 3) := by decide +kernel
theorem dX6_orders_66 : decode cX6_orders 66 = .ok (.aload_n 0, 1) := by decide +kernel
theorem dX6_orders_67 : decode cX6_orders 67 = .ok (.getfield 85, 3) := by decide +kernel
theorem dX6_orders_70 : decode cX6_orders 70 = .ok (.invokestatic 442, 3) := by decide +kernel
theorem dX6_orders_73 : decode cX6_orders 73 = .ok (.aload_n 0, 1) := by decide +kernel
theorem dX6_orders_74 : decode cX6_orders 74 = .ok (.iconst 0, 1) := by decide +kernel
theorem dX6_orders_75 : decode cX6_orders 75 = .ok (.iconst 0, 1) := by decide +kernel
theorem dX6_orders_76 : decode cX6_orders 76 = .ok (.iload_n 1, 1) := by decide +kernel
theorem dX6_orders_77 : decode cX6_orders 77 = .ok (.invokevirtual 449, 3) := by decide +kernel
theorem dX6_orders_80 : decode cX6_orders 80 = .ok (.aload_n 0, 1) := by decide +kernel
theorem dX6_orders_81 : decode cX6_orders 81 = .ok (.getfield 85, 3) := by decide +kernel
theorem dX6_orders_84 : decode cX6_orders 84 = .ok (.aload_n 0, 1) := by decide +kernel
theorem dX6_orders_85 : decode cX6_orders 85 = .ok (.getfield 115, 3) := by decide +kernel
theorem dX6_orders_88 : decode cX6_orders 88 = .ok (.invokestatic 442, 3) := by decide +kernel
theorem dX6_orders_91 : decode cX6_orders 91 = .ok (.iload_n 2, 1) := by decide +kernel
theorem dX6_orders_92 : decode cX6_orders 92 = .ok (.iconst (-1), 1) := by decide +kernel
theorem dX6_orders_93 : decode cX6_orders 93 = .ok (.if_icmp .ne 10, 3) := by decide +kernel
theorem dX6_orders_96 : decode cX6_orders 96 = .ok (.aload_n 0, 1) := by decide +kernel
theorem dX6_orders_97 : decode cX6_orders 97 = .ok (.getfield 436, 3) := by decide +kernel
theorem dX6_orders_100 : decode cX6_orders 100 = .ok (.goto 20, 3) := by decide +kernel
theorem dX6_orders_103 : decode cX6_orders 103 = .ok (.aload_n 0, 1) := by decide +kernel
theorem dX6_orders_104 : decode cX6_orders 104 = .ok (.getfield 439, 3) := by decide +kernel
theorem dX6_orders_107 : decode cX6_orders 107 = .ok (.ifCond .eq 12, 3) := by decide +kernel
theorem dX6_orders_110 : decode cX6_orders 110 = .ok (.aload_n 0, 1) := by decide +kernel
theorem dX6_orders_111 : decode cX6_orders 111 = .ok (.getfield 112, 3) := by decide +kernel
theorem dX6_orders_114 : decode cX6_orders 114 = .ok (.iload_n 2, 1) := by decide +kernel
theorem dX6_orders_115 : decode cX6_orders 115 = .ok (.iaload, 1) := by decide +kernel
theorem dX6_orders_116 : decode cX6_orders 116 = .ok (.goto 4, 3) := by decide +kernel
theorem dX6_orders_119 : decode cX6_orders 119 = .ok (.iconst (-1), 1) := by decide +kernel
theorem dX6_orders_120 : decode cX6_orders 120 = .ok (.ireturn, 1) := by decide +kernel
theorem dX6_turnAll_0 : decode cX6_turnAll 0 = .ok (.iconst 0, 1) := by decide +kernel
theorem dX6_turnAll_1 : decode cX6_turnAll 1 = .ok (.istore_n 2, 1) := by decide +kernel
theorem dX6_turnAll_2 : decode cX6_turnAll 2 = .ok (.iload_n 2, 1) := by decide +kernel
theorem dX6_turnAll_3 : decode cX6_turnAll 3 = .ok (.aload_n 0, 1) := by decide +kernel
theorem dX6_turnAll_4 : decode cX6_turnAll 4 = .ok (.getfield 42, 3) := by decide +kernel
theorem dX6_turnAll_7 : decode cX6_turnAll 7 = .ok (.iconst 1, 1) := by decide +kernel
theorem dX6_turnAll_8 : decode cX6_turnAll 8 = .ok (.iaload, 1) := by decide +kernel
theorem dX6_turnAll_9 : decode cX6_turnAll 9 = .ok (.if_icmp .ge 32, 3) := by decide +kernel
theorem dX6_turnAll_12 : decode cX6_turnAll 12 = .ok (.iload_n 1, 1) := by decide +kernel
theorem dX6_turnAll_13 : decode cX6_turnAll 13 = .ok (.iload_n 2, 1) := by decide +kernel
theorem dX6_turnAll_14 : decode cX6_turnAll 14 = .ok (.invokestatic 446, 3) := by decide +kernel
theorem dX6_turnAll_17 : decode cX6_turnAll 17 = .ok (.ifCond .eq 18, 3) := by decide +kernel
theorem dX6_turnAll_20 : decode cX6_turnAll 20 = .ok (.aload_n 0, 1) := by decide +kernel
theorem dX6_turnAll_21 : decode cX6_turnAll 21 = .ok (.getfield 88, 3) := by decide +kernel
theorem dX6_turnAll_24 : decode cX6_turnAll 24 = .ok (.iload_n 2, 1) := by decide +kernel
theorem dX6_turnAll_25 : decode cX6_turnAll 25 = .ok (.bipush 12, 2) := by decide +kernel
theorem dX6_turnAll_27 : decode cX6_turnAll 27 = .ok (.aload_n 0, 1) := by decide +kernel
theorem dX6_turnAll_28 : decode cX6_turnAll 28 = .ok (.getfield 88, 3) := by decide +kernel
theorem dX6_turnAll_31 : decode cX6_turnAll 31 = .ok (.iload_n 2, 1) := by decide +kernel
theorem dX6_turnAll_32 : decode cX6_turnAll 32 = .ok (.iaload, 1) := by decide +kernel
theorem dX6_turnAll_33 : decode cX6_turnAll 33 = .ok (.isub, 1) := by decide +kernel
theorem dX6_turnAll_34 : decode cX6_turnAll 34 = .ok (.iastore, 1) := by decide +kernel
theorem dX6_turnAll_35 : decode cX6_turnAll 35 = .ok (.iinc 2 1, 3) := by decide +kernel
theorem dX6_turnAll_38 : decode cX6_turnAll 38 = .ok (.goto (-36), 3) := by decide +kernel
theorem dX6_turnAll_41 : decode cX6_turnAll 41 = .ok (.return_, 1) := by decide +kernel
theorem dX6_decisive_0 : decode cX6_decisive 0 = .ok (.aload_n 0, 1) := by decide +kernel
theorem dX6_decisive_1 : decode cX6_decisive 1 = .ok (.iconst 0, 1) := by decide +kernel
theorem dX6_decisive_2 : decode cX6_decisive 2 = .ok (.putfield 157, 3) := by decide +kernel
theorem dX6_decisive_5 : decode cX6_decisive 5 = .ok (.aload_n 0, 1) := by decide +kernel
theorem dX6_decisive_6 : decode cX6_decisive 6 = .ok (.invokevirtual 433, 3) := by decide +kernel
theorem dX6_decisive_9 : decode cX6_decisive 9 = .ok (.istore_n 1, 1) := by decide +kernel
theorem dX6_decisive_10 : decode cX6_decisive 10 = .ok (.iconst 0, 1) := by decide +kernel
theorem dX6_decisive_11 : decode cX6_decisive 11 = .ok (.istore_n 2, 1) := by decide +kernel
theorem dX6_decisive_12 : decode cX6_decisive 12 = .ok (.iconst 0, 1) := by decide +kernel
theorem dX6_decisive_13 : decode cX6_decisive 13 = .ok (.istore_n 3, 1) := by decide +kernel
theorem dX6_decisive_14 : decode cX6_decisive 14 = .ok (.iload_n 3, 1) := by decide +kernel
theorem dX6_decisive_15 : decode cX6_decisive 15 = .ok (.aload_n 0, 1) := by decide +kernel
theorem dX6_decisive_16 : decode cX6_decisive 16 = .ok (.getfield 42, 3) := by decide +kernel
theorem dX6_decisive_19 : decode cX6_decisive 19 = .ok (.iconst 1, 1) := by decide +kernel
theorem dX6_decisive_20 : decode cX6_decisive 20 = .ok (.iaload, 1) := by decide +kernel
theorem dX6_decisive_21 : decode cX6_decisive 21 = .ok (.if_icmp .ge 41, 3) := by decide +kernel
theorem dX6_decisive_24 : decode cX6_decisive 24 = .ok (.aload_n 0, 1) := by decide +kernel
theorem dX6_decisive_25 : decode cX6_decisive 25 = .ok (.iconst 1, 1) := by decide +kernel
theorem dX6_decisive_26 : decode cX6_decisive 26 = .ok (.iload_n 3, 1) := by decide +kernel
theorem dX6_decisive_27 : decode cX6_decisive 27 = .ok (.ishl, 1) := by decide +kernel
theorem dX6_decisive_28 : decode cX6_decisive 28 = .ok (.invokevirtual 455, 3) := by decide +kernel
theorem dX6_decisive_31 : decode cX6_decisive 31 = .ok (.iload_n 2, 1) := by decide +kernel
theorem dX6_decisive_32 : decode cX6_decisive 32 = .ok (.aload_n 0, 1) := by decide +kernel
theorem dX6_decisive_33 : decode cX6_decisive 33 = .ok (.invokevirtual 433, 3) := by decide +kernel
theorem dX6_decisive_36 : decode cX6_decisive 36 = .ok (.iload_n 1, 1) := by decide +kernel
theorem dX6_decisive_37 : decode cX6_decisive 37 = .ok (.if_icmp .eq 9, 3) := by decide +kernel
theorem dX6_decisive_40 : decode cX6_decisive 40 = .ok (.iconst 1, 1) := by decide +kernel
theorem dX6_decisive_41 : decode cX6_decisive 41 = .ok (.iload_n 3, 1) := by decide +kernel
theorem dX6_decisive_42 : decode cX6_decisive 42 = .ok (.ishl, 1) := by decide +kernel
theorem dX6_decisive_43 : decode cX6_decisive 43 = .ok (.goto 4, 3) := by decide +kernel
theorem dX6_decisive_46 : decode cX6_decisive 46 = .ok (.iconst 0, 1) := by decide +kernel
theorem dX6_decisive_47 : decode cX6_decisive 47 = .ok (.ior, 1) := by decide +kernel
theorem dX6_decisive_48 : decode cX6_decisive 48 = .ok (.istore_n 2, 1) := by decide +kernel
theorem dX6_decisive_49 : decode cX6_decisive 49 = .ok (.aload_n 0, 1) := by decide +kernel
theorem dX6_decisive_50 : decode cX6_decisive 50 = .ok (.iconst 1, 1) := by decide +kernel
theorem dX6_decisive_51 : decode cX6_decisive 51 = .ok (.iload_n 3, 1) := by decide +kernel
theorem dX6_decisive_52 : decode cX6_decisive 52 = .ok (.ishl, 1) := by decide +kernel
theorem dX6_decisive_53 : decode cX6_decisive 53 = .ok (.invokevirtual 455, 3) := by decide +kernel
theorem dX6_decisive_56 : decode cX6_decisive 56 = .ok (.iinc 3 1, 3) := by decide +kernel
theorem dX6_decisive_59 : decode cX6_decisive 59 = .ok (.goto (-45), 3) := by decide +kernel
theorem dX6_decisive_62 : decode cX6_decisive 62 = .ok (.iload_n 2, 1) := by decide +kernel
theorem dX6_decisive_63 : decode cX6_decisive 63 = .ok (.ireturn, 1) := by decide +kernel
theorem dX6_toTurn_0 : decode cX6_toTurn 0 = .ok (.aload_n 0, 1) := by decide +kernel
theorem dX6_toTurn_1 : decode cX6_toTurn 1 = .ok (.iconst 0, 1) := by decide +kernel
theorem dX6_toTurn_2 : decode cX6_toTurn 2 = .ok (.putfield 157, 3) := by decide +kernel
theorem dX6_toTurn_5 : decode cX6_toTurn 5 = .ok (.iload_n 1, 1) := by decide +kernel
theorem dX6_toTurn_6 : decode cX6_toTurn 6 = .ok (.invokestatic 427, 3) := by decide +kernel
theorem dX6_toTurn_9 : decode cX6_toTurn 9 = .ok (.ifCond .ne 9, 3) := by decide +kernel
theorem dX6_toTurn_12 : decode cX6_toTurn 12 = .ok (.aload_n 0, 1) := by decide +kernel
theorem dX6_toTurn_13 : decode cX6_toTurn 13 = .ok (.iconst 1, 1) := by decide +kernel
theorem dX6_toTurn_14 : decode cX6_toTurn 14 = .ok (.invokevirtual 300, 3) := by decide +kernel
theorem dX6_toTurn_17 : decode cX6_toTurn 17 = .ok (.ireturn, 1) := by decide +kernel
theorem dX6_toTurn_18 : decode cX6_toTurn 18 = .ok (.iconst (-1), 1) := by decide +kernel
theorem dX6_toTurn_19 : decode cX6_toTurn 19 = .ok (.istore_n 2, 1) := by decide +kernel
theorem dX6_toTurn_20 : decode cX6_toTurn 20 = .ok (.iconst 0, 1) := by decide +kernel
theorem dX6_toTurn_21 : decode cX6_toTurn 21 = .ok (.istore_n 3, 1) := by decide +kernel
theorem dX6_toTurn_22 : decode cX6_toTurn 22 = .ok (.iload_n 3, 1) := by decide +kernel
theorem dX6_toTurn_23 : decode cX6_toTurn 23 = .ok (.iconst 1, 1) := by decide +kernel
theorem dX6_toTurn_24 : decode cX6_toTurn 24 = .ok (.aload_n 0, 1) := by decide +kernel
theorem dX6_toTurn_25 : decode cX6_toTurn 25 = .ok (.getfield 42, 3) := by decide +kernel
theorem dX6_toTurn_28 : decode cX6_toTurn 28 = .ok (.iconst 1, 1) := by decide +kernel
theorem dX6_toTurn_29 : decode cX6_toTurn 29 = .ok (.iaload, 1) := by decide +kernel
theorem dX6_toTurn_30 : decode cX6_toTurn 30 = .ok (.ishl, 1) := by decide +kernel
theorem dX6_toTurn_31 : decode cX6_toTurn 31 = .ok (.if_icmp .ge 48, 3) := by decide +kernel
theorem dX6_toTurn_34 : decode cX6_toTurn 34 = .ok (.iload_n 2, 1) := by decide +kernel
theorem dX6_toTurn_35 : decode cX6_toTurn 35 = .ok (.iconst (-1), 1) := by decide +kernel
theorem dX6_toTurn_36 : decode cX6_toTurn 36 = .ok (.if_icmp .eq 17, 3) := by decide +kernel
theorem dX6_toTurn_39 : decode cX6_toTurn 39 = .ok (.iload_n 3, 1) := by decide +kernel
theorem dX6_toTurn_40 : decode cX6_toTurn 40 = .ok (.invokestatic 332, 3) := by decide +kernel
theorem dX6_toTurn_43 : decode cX6_toTurn 43 = .ok (.iload_n 2, 1) := by decide +kernel
theorem dX6_toTurn_44 : decode cX6_toTurn 44 = .ok (.invokestatic 332, 3) := by decide +kernel
theorem dX6_toTurn_47 : decode cX6_toTurn 47 = .ok (.if_icmp .lt 6, 3) := by decide +kernel
theorem dX6_toTurn_50 : decode cX6_toTurn 50 = .ok (.goto 23, 3) := by decide +kernel
theorem dX6_toTurn_53 : decode cX6_toTurn 53 = .ok (.aload_n 0, 1) := by decide +kernel
theorem dX6_toTurn_54 : decode cX6_toTurn 54 = .ok (.iload_n 3, 1) := by decide +kernel
theorem dX6_toTurn_55 : decode cX6_toTurn 55 = .ok (.invokevirtual 455, 3) := by decide +kernel
theorem dX6_toTurn_58 : decode cX6_toTurn 58 = .ok (.aload_n 0, 1) := by decide +kernel
theorem dX6_toTurn_59 : decode cX6_toTurn 59 = .ok (.invokevirtual 433, 3) := by decide +kernel
theorem dX6_toTurn_62 : decode cX6_toTurn 62 = .ok (.iload_n 1, 1) := by decide +kernel
theorem dX6_toTurn_63 : decode cX6_toTurn 63 = .ok (.if_icmp .ne 5, 3) := by decide +kernel
theorem dX6_toTurn_66 : decode cX6_toTurn 66 = .ok (.iload_n 3, 1) := by decide +kernel
theorem dX6_toTurn_67 : decode cX6_toTurn 67 = .ok (.istore_n 2, 1) := by decide +kernel
theorem dX6_toTurn_68 : decode cX6_toTurn 68 = .ok (.aload_n 0, 1) := by decide +kernel
theorem dX6_toTurn_69 : decode cX6_toTurn 69 = .ok (.iload_n 3, 1) := by decide +kernel
theorem dX6_toTurn_70 : decode cX6_toTurn 70 = .ok (.invokevirtual 455, 3) := by decide +kernel
theorem dX6_toTurn_73 : decode cX6_toTurn 73 = .ok (.iinc 3 1, 3) := by decide +kernel
theorem dX6_toTurn_76 : decode cX6_toTurn 76 = .ok (.goto (-54), 3) := by decide +kernel
theorem dX6_toTurn_79 : decode cX6_toTurn 79 = .ok (.iload_n 2, 1) := by decide +kernel
theorem dX6_toTurn_80 : decode cX6_toTurn 80 = .ok (.ireturn, 1) := by decide +kernel
theorem dX6_toDrink_0 : decode cX6_toDrink 0 = .ok (.aload_n 0, 1) := by decide +kernel
theorem dX6_toDrink_1 : decode cX6_toDrink 1 = .ok (.iconst 0, 1) := by decide +kernel
theorem dX6_toDrink_2 : decode cX6_toDrink 2 = .ok (.putfield 157, 3) := by decide +kernel
theorem dX6_toDrink_5 : decode cX6_toDrink 5 = .ok (.aload_n 0, 1) := by decide +kernel
theorem dX6_toDrink_6 : decode cX6_toDrink 6 = .ok (.iload_n 1, 1) := by decide +kernel
theorem dX6_toDrink_7 : decode cX6_toDrink 7 = .ok (.invokevirtual 385, 3) := by decide +kernel
theorem dX6_toDrink_10 : decode cX6_toDrink 10 = .ok (.ifCond .eq 10, 3) := by decide +kernel
theorem dX6_toDrink_13 : decode cX6_toDrink 13 = .ok (.iload_n 2, 1) := by decide +kernel
theorem dX6_toDrink_14 : decode cX6_toDrink 14 = .ok (.invokestatic 427, 3) := by decide +kernel
theorem dX6_toDrink_17 : decode cX6_toDrink 17 = .ok (.ifCond .ne 9, 3) := by decide +kernel
theorem dX6_toDrink_20 : decode cX6_toDrink 20 = .ok (.aload_n 0, 1) := by decide +kernel
theorem dX6_toDrink_21 : decode cX6_toDrink 21 = .ok (.iconst 1, 1) := by decide +kernel
theorem dX6_toDrink_22 : decode cX6_toDrink 22 = .ok (.invokevirtual 300, 3) := by decide +kernel
theorem dX6_toDrink_25 : decode cX6_toDrink 25 = .ok (.ireturn, 1) := by decide +kernel
theorem dX6_toDrink_26 : decode cX6_toDrink 26 = .ok (.aload_n 0, 1) := by decide +kernel
theorem dX6_toDrink_27 : decode cX6_toDrink 27 = .ok (.getfield 73, 3) := by decide +kernel
theorem dX6_toDrink_30 : decode cX6_toDrink 30 = .ok (.iload_n 1, 1) := by decide +kernel
theorem dX6_toDrink_31 : decode cX6_toDrink 31 = .ok (.iaload, 1) := by decide +kernel
theorem dX6_toDrink_32 : decode cX6_toDrink 32 = .ok (.istore_n 3, 1) := by decide +kernel
theorem dX6_toDrink_33 : decode cX6_toDrink 33 = .ok (.iconst (-1), 1) := by decide +kernel
theorem dX6_toDrink_34 : decode cX6_toDrink 34 = .ok (.istore 4, 2) := by decide +kernel
theorem dX6_toDrink_36 : decode cX6_toDrink 36 = .ok (.bipush 30, 2) := by decide +kernel
theorem dX6_toDrink_38 : decode cX6_toDrink 38 = .ok (.istore 5, 2) := by decide +kernel
theorem dX6_toDrink_40 : decode cX6_toDrink 40 = .ok (.iload 5, 2) := by decide +kernel
theorem dX6_toDrink_42 : decode cX6_toDrink 42 = .ok (.ifCond .lt 29, 3) := by decide +kernel
theorem dX6_toDrink_45 : decode cX6_toDrink 45 = .ok (.aload_n 0, 1) := by decide +kernel
theorem dX6_toDrink_46 : decode cX6_toDrink 46 = .ok (.getfield 73, 3) := by decide +kernel
theorem dX6_toDrink_49 : decode cX6_toDrink 49 = .ok (.iload_n 1, 1) := by decide +kernel
theorem dX6_toDrink_50 : decode cX6_toDrink 50 = .ok (.iload 5, 2) := by decide +kernel
theorem dX6_toDrink_52 : decode cX6_toDrink 52 = .ok (.iastore, 1) := by decide +kernel
theorem dX6_toDrink_53 : decode cX6_toDrink 53 = .ok (.aload_n 0, 1) := by decide +kernel
theorem dX6_toDrink_54 : decode cX6_toDrink 54 = .ok (.invokevirtual 433, 3) := by decide +kernel
theorem dX6_toDrink_57 : decode cX6_toDrink 57 = .ok (.iload_n 2, 1) := by decide +kernel
theorem dX6_toDrink_58 : decode cX6_toDrink 58 = .ok (.if_icmp .ne 7, 3) := by decide +kernel
theorem dX6_toDrink_61 : decode cX6_toDrink 61 = .ok (.iload 5, 2) := by decide +kernel
theorem dX6_toDrink_63 : decode cX6_toDrink 63 = .ok (.istore 4, 2) := by decide +kernel
theorem dX6_toDrink_65 : decode cX6_toDrink 65 = .ok (.iinc 5 (-1), 3) := by decide +kernel
theorem dX6_toDrink_68 : decode cX6_toDrink 68 = .ok (.goto (-28), 3) := by decide +kernel
theorem dX6_toDrink_71 : decode cX6_toDrink 71 = .ok (.aload_n 0, 1) := by decide +kernel
theorem dX6_toDrink_72 : decode cX6_toDrink 72 = .ok (.getfield 73, 3) := by decide +kernel
theorem dX6_toDrink_75 : decode cX6_toDrink 75 = .ok (.iload_n 1, 1) := by decide +kernel
theorem dX6_toDrink_76 : decode cX6_toDrink 76 = .ok (.iload_n 3, 1) := by decide +kernel
theorem dX6_toDrink_77 : decode cX6_toDrink 77 = .ok (.iastore, 1) := by decide +kernel
theorem dX6_toDrink_78 : decode cX6_toDrink 78 = .ok (.iload 4, 2) := by decide +kernel
theorem dX6_toDrink_80 : decode cX6_toDrink 80 = .ok (.ireturn, 1) := by decide +kernel
theorem dX6_toPour_0 : decode cX6_toPour 0 = .ok (.aload_n 0, 1) := by decide +kernel
theorem dX6_toPour_1 : decode cX6_toPour 1 = .ok (.iconst 0, 1) := by decide +kernel
theorem dX6_toPour_2 : decode cX6_toPour 2 = .ok (.putfield 157, 3) := by decide +kernel
theorem dX6_toPour_5 : decode cX6_toPour 5 = .ok (.iload_n 1, 1) := by decide +kernel
theorem dX6_toPour_6 : decode cX6_toPour 6 = .ok (.invokestatic 427, 3) := by decide +kernel
theorem dX6_toPour_9 : decode cX6_toPour 9 = .ok (.ifCond .ne 9, 3) := by decide +kernel
theorem dX6_toPour_12 : decode cX6_toPour 12 = .ok (.aload_n 0, 1) := by decide +kernel
theorem dX6_toPour_13 : decode cX6_toPour 13 = .ok (.iconst 1, 1) := by decide +kernel
theorem dX6_toPour_14 : decode cX6_toPour 14 = .ok (.invokevirtual 300, 3) := by decide +kernel
theorem dX6_toPour_17 : decode cX6_toPour 17 = .ok (.ireturn, 1) := by decide +kernel
theorem dX6_toPour_18 : decode cX6_toPour 18 = .ok (.aload_n 0, 1) := by decide +kernel
theorem dX6_toPour_19 : decode cX6_toPour 19 = .ok (.getfield 151, 3) := by decide +kernel
theorem dX6_toPour_22 : decode cX6_toPour 22 = .ok (.istore_n 2, 1) := by decide +kernel
theorem dX6_toPour_23 : decode cX6_toPour 23 = .ok (.iconst (-1), 1) := by decide +kernel
theorem dX6_toPour_24 : decode cX6_toPour 24 = .ok (.istore_n 3, 1) := by decide +kernel
theorem dX6_toPour_25 : decode cX6_toPour 25 = .ok (.bipush 99, 2) := by decide +kernel
theorem dX6_toPour_27 : decode cX6_toPour 27 = .ok (.istore 4, 2) := by decide +kernel
theorem dX6_toPour_29 : decode cX6_toPour 29 = .ok (.iload 4, 2) := by decide +kernel
theorem dX6_toPour_31 : decode cX6_toPour 31 = .ok (.ifCond .lt 26, 3) := by decide +kernel
theorem dX6_toPour_34 : decode cX6_toPour 34 = .ok (.aload_n 0, 1) := by decide +kernel
theorem dX6_toPour_35 : decode cX6_toPour 35 = .ok (.iload 4, 2) := by decide +kernel
theorem dX6_toPour_37 : decode cX6_toPour 37 = .ok (.putfield 151, 3) := by decide +kernel
theorem dX6_toPour_40 : decode cX6_toPour 40 = .ok (.aload_n 0, 1) := by decide +kernel
theorem dX6_toPour_41 : decode cX6_toPour 41 = .ok (.invokevirtual 433, 3) := by decide +kernel
theorem dX6_toPour_44 : decode cX6_toPour 44 = .ok (.iload_n 1, 1) := by decide +kernel
theorem dX6_toPour_45 : decode cX6_toPour 45 = .ok (.if_icmp .ne 6, 3) := by decide +kernel
theorem dX6_toPour_48 : decode cX6_toPour 48 = .ok (.iload 4, 2) := by decide +kernel
theorem dX6_toPour_50 : decode cX6_toPour 50 = .ok (.istore_n 3, 1) := by decide +kernel
theorem dX6_toPour_51 : decode cX6_toPour 51 = .ok (.iinc 4 (-1), 3) := by decide +kernel
theorem dX6_toPour_54 : decode cX6_toPour 54 = .ok (.goto (-25), 3) := by decide +kernel
theorem dX6_toPour_57 : decode cX6_toPour 57 = .ok (.aload_n 0, 1) := by decide +kernel
theorem dX6_toPour_58 : decode cX6_toPour 58 = .ok (.iload_n 2, 1) := by decide +kernel
theorem dX6_toPour_59 : decode cX6_toPour 59 = .ok (.putfield 151, 3) := by decide +kernel
theorem dX6_toPour_62 : decode cX6_toPour 62 = .ok (.iload_n 3, 1) := by decide +kernel
theorem dX6_toPour_63 : decode cX6_toPour 63 = .ok (.ireturn, 1) := by decide +kernel
theorem dX6_toLay_0 : decode cX6_toLay 0 = .ok (.aload_n 0, 1) := by decide +kernel
theorem dX6_toLay_1 : decode cX6_toLay 1 = .ok (.iconst 0, 1) := by decide +kernel
theorem dX6_toLay_2 : decode cX6_toLay 2 = .ok (.putfield 157, 3) := by decide +kernel
theorem dX6_toLay_5 : decode cX6_toLay 5 = .ok (.aload_n 0, 1) := by decide +kernel
theorem dX6_toLay_6 : decode cX6_toLay 6 = .ok (.iload_n 1, 1) := by decide +kernel
theorem dX6_toLay_7 : decode cX6_toLay 7 = .ok (.invokevirtual 382, 3) := by decide +kernel
theorem dX6_toLay_10 : decode cX6_toLay 10 = .ok (.ifCond .eq 10, 3) := by decide +kernel
theorem dX6_toLay_13 : decode cX6_toLay 13 = .ok (.iload_n 2, 1) := by decide +kernel
theorem dX6_toLay_14 : decode cX6_toLay 14 = .ok (.invokestatic 427, 3) := by decide +kernel
theorem dX6_toLay_17 : decode cX6_toLay 17 = .ok (.ifCond .ne 9, 3) := by decide +kernel
theorem dX6_toLay_20 : decode cX6_toLay 20 = .ok (.aload_n 0, 1) := by decide +kernel
theorem dX6_toLay_21 : decode cX6_toLay 21 = .ok (.iconst 1, 1) := by decide +kernel
theorem dX6_toLay_22 : decode cX6_toLay 22 = .ok (.invokevirtual 300, 3) := by decide +kernel
theorem dX6_toLay_25 : decode cX6_toLay 25 = .ok (.ireturn, 1) := by decide +kernel
theorem dX6_toLay_26 : decode cX6_toLay 26 = .ok (.aload_n 0, 1) := by decide +kernel
theorem dX6_toLay_27 : decode cX6_toLay 27 = .ok (.getfield 82, 3) := by decide +kernel
theorem dX6_toLay_30 : decode cX6_toLay 30 = .ok (.iload_n 1, 1) := by decide +kernel
theorem dX6_toLay_31 : decode cX6_toLay 31 = .ok (.iaload, 1) := by decide +kernel
theorem dX6_toLay_32 : decode cX6_toLay 32 = .ok (.istore_n 3, 1) := by decide +kernel
theorem dX6_toLay_33 : decode cX6_toLay 33 = .ok (.iconst (-1), 1) := by decide +kernel
theorem dX6_toLay_34 : decode cX6_toLay 34 = .ok (.istore 4, 2) := by decide +kernel
theorem dX6_toLay_36 : decode cX6_toLay 36 = .ok (.bipush 11, 2) := by decide +kernel
theorem dX6_toLay_38 : decode cX6_toLay 38 = .ok (.istore 5, 2) := by decide +kernel
theorem dX6_toLay_40 : decode cX6_toLay 40 = .ok (.iload 5, 2) := by decide +kernel
theorem dX6_toLay_42 : decode cX6_toLay 42 = .ok (.ifCond .lt 29, 3) := by decide +kernel
theorem dX6_toLay_45 : decode cX6_toLay 45 = .ok (.aload_n 0, 1) := by decide +kernel
theorem dX6_toLay_46 : decode cX6_toLay 46 = .ok (.getfield 82, 3) := by decide +kernel
theorem dX6_toLay_49 : decode cX6_toLay 49 = .ok (.iload_n 1, 1) := by decide +kernel
theorem dX6_toLay_50 : decode cX6_toLay 50 = .ok (.iload 5, 2) := by decide +kernel
theorem dX6_toLay_52 : decode cX6_toLay 52 = .ok (.iastore, 1) := by decide +kernel
theorem dX6_toLay_53 : decode cX6_toLay 53 = .ok (.aload_n 0, 1) := by decide +kernel
theorem dX6_toLay_54 : decode cX6_toLay 54 = .ok (.invokevirtual 433, 3) := by decide +kernel
theorem dX6_toLay_57 : decode cX6_toLay 57 = .ok (.iload_n 2, 1) := by decide +kernel
theorem dX6_toLay_58 : decode cX6_toLay 58 = .ok (.if_icmp .ne 7, 3) := by decide +kernel
theorem dX6_toLay_61 : decode cX6_toLay 61 = .ok (.iload 5, 2) := by decide +kernel
theorem dX6_toLay_63 : decode cX6_toLay 63 = .ok (.istore 4, 2) := by decide +kernel
theorem dX6_toLay_65 : decode cX6_toLay 65 = .ok (.iinc 5 (-1), 3) := by decide +kernel
theorem dX6_toLay_68 : decode cX6_toLay 68 = .ok (.goto (-28), 3) := by decide +kernel
theorem dX6_toLay_71 : decode cX6_toLay 71 = .ok (.aload_n 0, 1) := by decide +kernel
theorem dX6_toLay_72 : decode cX6_toLay 72 = .ok (.getfield 82, 3) := by decide +kernel
theorem dX6_toLay_75 : decode cX6_toLay 75 = .ok (.iload_n 1, 1) := by decide +kernel
theorem dX6_toLay_76 : decode cX6_toLay 76 = .ok (.iload_n 3, 1) := by decide +kernel
theorem dX6_toLay_77 : decode cX6_toLay 77 = .ok (.iastore, 1) := by decide +kernel
theorem dX6_toLay_78 : decode cX6_toLay 78 = .ok (.iload 4, 2) := by decide +kernel
theorem dX6_toLay_80 : decode cX6_toLay 80 = .ok (.ireturn, 1) := by decide +kernel
theorem dX6_better_0 : decode cX6_better 0 = .ok (.aload_n 0, 1) := by decide +kernel
theorem dX6_better_1 : decode cX6_better 1 = .ok (.iconst 0, 1) := by decide +kernel
theorem dX6_better_2 : decode cX6_better 2 = .ok (.putfield 157, 3) := by decide +kernel
theorem dX6_better_5 : decode cX6_better 5 = .ok (.aload_n 0, 1) := by decide +kernel
theorem dX6_better_6 : decode cX6_better 6 = .ok (.iload_n 1, 1) := by decide +kernel
theorem dX6_better_7 : decode cX6_better 7 = .ok (.invokevirtual 385, 3) := by decide +kernel
theorem dX6_better_10 : decode cX6_better 10 = .ok (.ifCond .ne 9, 3) := by decide +kernel
theorem dX6_better_13 : decode cX6_better 13 = .ok (.aload_n 0, 1) := by decide +kernel
theorem dX6_better_14 : decode cX6_better 14 = .ok (.iconst 1, 1) := by decide +kernel
theorem dX6_better_15 : decode cX6_better 15 = .ok (.invokevirtual 300, 3) := by decide +kernel
theorem dX6_better_18 : decode cX6_better 18 = .ok (.ireturn, 1) := by decide +kernel
theorem dX6_better_19 : decode cX6_better 19 = .ok (.aload_n 0, 1) := by decide +kernel
theorem dX6_better_20 : decode cX6_better 20 = .ok (.invokevirtual 433, 3) := by decide +kernel
theorem dX6_better_23 : decode cX6_better 23 = .ok (.aload_n 0, 1) := by decide +kernel
theorem dX6_better_24 : decode cX6_better 24 = .ok (.getfield 61, 3) := by decide +kernel
theorem dX6_better_27 : decode cX6_better 27 = .ok (.iload_n 1, 1) := by decide +kernel
theorem dX6_better_28 : decode cX6_better 28 = .ok (.iaload, 1) := by decide +kernel
theorem dX6_better_29 : decode cX6_better 29 = .ok (.if_icmp .ne 5, 3) := by decide +kernel
theorem dX6_better_32 : decode cX6_better 32 = .ok (.iconst (-1), 1) := by decide +kernel
theorem dX6_better_33 : decode cX6_better 33 = .ok (.ireturn, 1) := by decide +kernel
theorem dX6_better_34 : decode cX6_better 34 = .ok (.iconst (-1), 1) := by decide +kernel
theorem dX6_better_35 : decode cX6_better 35 = .ok (.istore_n 2, 1) := by decide +kernel
theorem dX6_better_36 : decode cX6_better 36 = .ok (.aload_n 0, 1) := by decide +kernel
theorem dX6_better_37 : decode cX6_better 37 = .ok (.getfield 42, 3) := by decide +kernel
theorem dX6_better_40 : decode cX6_better 40 = .ok (.iconst 1, 1) := by decide +kernel
theorem dX6_better_41 : decode cX6_better 41 = .ok (.iaload, 1) := by decide +kernel
theorem dX6_better_42 : decode cX6_better 42 = .ok (.iconst 1, 1) := by decide +kernel
theorem dX6_better_43 : decode cX6_better 43 = .ok (.isub, 1) := by decide +kernel
theorem dX6_better_44 : decode cX6_better 44 = .ok (.istore_n 3, 1) := by decide +kernel
theorem dX6_better_45 : decode cX6_better 45 = .ok (.iload_n 3, 1) := by decide +kernel
theorem dX6_better_46 : decode cX6_better 46 = .ok (.ifCond .lt 44, 3) := by decide +kernel
theorem dX6_better_49 : decode cX6_better 49 = .ok (.iload_n 3, 1) := by decide +kernel
theorem dX6_better_50 : decode cX6_better 50 = .ok (.iload_n 1, 1) := by decide +kernel
theorem dX6_better_51 : decode cX6_better 51 = .ok (.if_icmp .ne 6, 3) := by decide +kernel
theorem dX6_better_54 : decode cX6_better 54 = .ok (.goto 30, 3) := by decide +kernel
theorem dX6_better_57 : decode cX6_better 57 = .ok (.aload_n 0, 1) := by decide +kernel
theorem dX6_better_58 : decode cX6_better 58 = .ok (.iload_n 3, 1) := by decide +kernel
theorem dX6_better_59 : decode cX6_better 59 = .ok (.iload_n 1, 1) := by decide +kernel
theorem dX6_better_60 : decode cX6_better 60 = .ok (.invokevirtual 411, 3) := by decide +kernel
theorem dX6_better_63 : decode cX6_better 63 = .ok (.aload_n 0, 1) := by decide +kernel
theorem dX6_better_64 : decode cX6_better 64 = .ok (.invokevirtual 433, 3) := by decide +kernel
theorem dX6_better_67 : decode cX6_better 67 = .ok (.aload_n 0, 1) := by decide +kernel
theorem dX6_better_68 : decode cX6_better 68 = .ok (.getfield 61, 3) := by decide +kernel
theorem dX6_better_71 : decode cX6_better 71 = .ok (.iload_n 1, 1) := by decide +kernel
theorem dX6_better_72 : decode cX6_better 72 = .ok (.iaload, 1) := by decide +kernel
theorem dX6_better_73 : decode cX6_better 73 = .ok (.if_icmp .ne 5, 3) := by decide +kernel
theorem dX6_better_76 : decode cX6_better 76 = .ok (.iload_n 3, 1) := by decide +kernel
theorem dX6_better_77 : decode cX6_better 77 = .ok (.istore_n 2, 1) := by decide +kernel
theorem dX6_better_78 : decode cX6_better 78 = .ok (.aload_n 0, 1) := by decide +kernel
theorem dX6_better_79 : decode cX6_better 79 = .ok (.iload_n 3, 1) := by decide +kernel
theorem dX6_better_80 : decode cX6_better 80 = .ok (.iload_n 1, 1) := by decide +kernel
theorem dX6_better_81 : decode cX6_better 81 = .ok (.invokevirtual 411, 3) := by decide +kernel
theorem dX6_better_84 : decode cX6_better 84 = .ok (.iinc 3 (-1), 3) := by decide +kernel
theorem dX6_better_87 : decode cX6_better 87 = .ok (.goto (-42), 3) := by decide +kernel
theorem dX6_better_90 : decode cX6_better 90 = .ok (.iload_n 2, 1) := by decide +kernel
theorem dX6_better_91 : decode cX6_better 91 = .ok (.ireturn, 1) := by decide +kernel
theorem dX6_stir_0 : decode cX6_stir 0 = .ok (.aload_n 0, 1) := by decide +kernel
theorem dX6_stir_1 : decode cX6_stir 1 = .ok (.iconst 0, 1) := by decide +kernel
theorem dX6_stir_2 : decode cX6_stir 2 = .ok (.putfield 157, 3) := by decide +kernel
theorem dX6_stir_5 : decode cX6_stir 5 = .ok (.aload_n 0, 1) := by decide +kernel
theorem dX6_stir_6 : decode cX6_stir 6 = .ok (.iload_n 1, 1) := by decide +kernel
theorem dX6_stir_7 : decode cX6_stir 7 = .ok (.invokevirtual 385, 3) := by decide +kernel
theorem dX6_stir_10 : decode cX6_stir 10 = .ok (.ifCond .eq 11, 3) := by decide +kernel
theorem dX6_stir_13 : decode cX6_stir 13 = .ok (.aload_n 0, 1) := by decide +kernel
theorem dX6_stir_14 : decode cX6_stir 14 = .ok (.iload_n 2, 1) := by decide +kernel
theorem dX6_stir_15 : decode cX6_stir 15 = .ok (.invokevirtual 382, 3) := by decide +kernel
theorem dX6_stir_18 : decode cX6_stir 18 = .ok (.ifCond .ne 9, 3) := by decide +kernel
theorem dX6_stir_21 : decode cX6_stir 21 = .ok (.aload_n 0, 1) := by decide +kernel
theorem dX6_stir_22 : decode cX6_stir 22 = .ok (.iconst 1, 1) := by decide +kernel
theorem dX6_stir_23 : decode cX6_stir 23 = .ok (.invokevirtual 300, 3) := by decide +kernel
theorem dX6_stir_26 : decode cX6_stir 26 = .ok (.ireturn, 1) := by decide +kernel
theorem dX6_stir_27 : decode cX6_stir 27 = .ok (.iload_n 3, 1) := by decide +kernel
theorem dX6_stir_28 : decode cX6_stir 28 = .ok (.i2l, 1) := by decide +kernel
theorem dX6_stir_29 : decode cX6_stir 29 = .ok (.lconst 0, 1) := by decide +kernel
theorem dX6_stir_30 : decode cX6_stir 30 = .ok (.ldc2_w 417, 3) := by decide +kernel
theorem dX6_stir_33 : decode cX6_stir 33 = .ok (.invokestatic 160, 3) := by decide +kernel
theorem dX6_stir_36 : decode cX6_stir 36 = .ok (.ifCond .eq 13, 3) := by decide +kernel
theorem dX6_stir_39 : decode cX6_stir 39 = .ok (.aload_n 0, 1) := by decide +kernel
theorem dX6_stir_40 : decode cX6_stir 40 = .ok (.iload_n 1, 1) := by decide +kernel
theorem dX6_stir_41 : decode cX6_stir 41 = .ok (.iload_n 2, 1) := by decide +kernel
theorem dX6_stir_42 : decode cX6_stir 42 = .ok (.iload_n 3, 1) := by decide +kernel
theorem dX6_stir_43 : decode cX6_stir 43 = .ok (.invokevirtual 363, 3) := by decide +kernel
theorem dX6_stir_46 : decode cX6_stir 46 = .ok (.goto 8, 3) := by decide +kernel
theorem dX6_stir_49 : decode cX6_stir 49 = .ok (.aload_n 0, 1) := by decide +kernel
theorem dX6_stir_50 : decode cX6_stir 50 = .ok (.iconst 2, 1) := by decide +kernel
theorem dX6_stir_51 : decode cX6_stir 51 = .ok (.invokevirtual 300, 3) := by decide +kernel
theorem dX6_stir_54 : decode cX6_stir 54 = .ok (.ireturn, 1) := by decide +kernel
theorem dX6_apart_0 : decode cX6_apart 0 = .ok (.aload_n 0, 1) := by decide +kernel
theorem dX6_apart_1 : decode cX6_apart 1 = .ok (.iconst 0, 1) := by decide +kernel
theorem dX6_apart_2 : decode cX6_apart 2 = .ok (.putfield 157, 3) := by decide +kernel
theorem dX6_apart_5 : decode cX6_apart 5 = .ok (.aload_n 0, 1) := by decide +kernel
theorem dX6_apart_6 : decode cX6_apart 6 = .ok (.iload_n 1, 1) := by decide +kernel
theorem dX6_apart_7 : decode cX6_apart 7 = .ok (.invokevirtual 382, 3) := by decide +kernel
theorem dX6_apart_10 : decode cX6_apart 10 = .ok (.ifCond .eq 11, 3) := by decide +kernel
theorem dX6_apart_13 : decode cX6_apart 13 = .ok (.aload_n 0, 1) := by decide +kernel
theorem dX6_apart_14 : decode cX6_apart 14 = .ok (.iload_n 2, 1) := by decide +kernel
theorem dX6_apart_15 : decode cX6_apart 15 = .ok (.invokevirtual 382, 3) := by decide +kernel
theorem dX6_apart_18 : decode cX6_apart 18 = .ok (.ifCond .ne 9, 3) := by decide +kernel
theorem dX6_apart_21 : decode cX6_apart 21 = .ok (.aload_n 0, 1) := by decide +kernel
theorem dX6_apart_22 : decode cX6_apart 22 = .ok (.iconst 1, 1) := by decide +kernel
theorem dX6_apart_23 : decode cX6_apart 23 = .ok (.invokevirtual 300, 3) := by decide +kernel
theorem dX6_apart_26 : decode cX6_apart 26 = .ok (.ireturn, 1) := by decide +kernel
theorem dX6_apart_27 : decode cX6_apart 27 = .ok (.aload_n 0, 1) := by decide +kernel
theorem dX6_apart_28 : decode cX6_apart 28 = .ok (.getfield 82, 3) := by decide +kernel
theorem dX6_apart_31 : decode cX6_apart 31 = .ok (.iload_n 1, 1) := by decide +kernel
theorem dX6_apart_32 : decode cX6_apart 32 = .ok (.iaload, 1) := by decide +kernel
theorem dX6_apart_33 : decode cX6_apart 33 = .ok (.aload_n 0, 1) := by decide +kernel
theorem dX6_apart_34 : decode cX6_apart 34 = .ok (.getfield 82, 3) := by decide +kernel
theorem dX6_apart_37 : decode cX6_apart 37 = .ok (.iload_n 2, 1) := by decide +kernel
theorem dX6_apart_38 : decode cX6_apart 38 = .ok (.iaload, 1) := by decide +kernel
theorem dX6_apart_39 : decode cX6_apart 39 = .ok (.isub, 1) := by decide +kernel
theorem dX6_apart_40 : decode cX6_apart 40 = .ok (.invokestatic 458, 3) := by decide +kernel
theorem dX6_apart_43 : decode cX6_apart 43 = .ok (.istore_n 3, 1) := by decide +kernel
theorem dX6_apart_44 : decode cX6_apart 44 = .ok (.iload_n 3, 1) := by decide +kernel
theorem dX6_apart_45 : decode cX6_apart 45 = .ok (.bipush 12, 2) := by decide +kernel
theorem dX6_apart_47 : decode cX6_apart 47 = .ok (.iload_n 3, 1) := by decide +kernel
theorem dX6_apart_48 : decode cX6_apart 48 = .ok (.isub, 1) := by decide +kernel
theorem dX6_apart_49 : decode cX6_apart 49 = .ok (.invokestatic 198, 3) := by decide +kernel
theorem dX6_apart_52 : decode cX6_apart 52 = .ok (.ireturn, 1) := by decide +kernel
theorem dX6_read_0 : decode cX6_read 0 = .ok (.aload_n 0, 1) := by decide +kernel
theorem dX6_read_1 : decode cX6_read 1 = .ok (.iconst 0, 1) := by decide +kernel
theorem dX6_read_2 : decode cX6_read 2 = .ok (.putfield 157, 3) := by decide +kernel
theorem dX6_read_5 : decode cX6_read 5 = .ok (.iload_n 2, 1) := by decide +kernel
theorem dX6_read_6 : decode cX6_read 6 = .ok (.invokestatic 427, 3) := by decide +kernel
theorem dX6_read_9 : decode cX6_read 9 = .ok (.ifCond .ne 9, 3) := by decide +kernel
theorem dX6_read_12 : decode cX6_read 12 = .ok (.aload_n 0, 1) := by decide +kernel
theorem dX6_read_13 : decode cX6_read 13 = .ok (.iconst 1, 1) := by decide +kernel
theorem dX6_read_14 : decode cX6_read 14 = .ok (.invokevirtual 300, 3) := by decide +kernel
theorem dX6_read_17 : decode cX6_read 17 = .ok (.ireturn, 1) := by decide +kernel
theorem dX6_read_18 : decode cX6_read 18 = .ok (.aload_n 0, 1) := by decide +kernel
theorem dX6_read_19 : decode cX6_read 19 = .ok (.getfield 319, 3) := by decide +kernel
theorem dX6_read_22 : decode cX6_read 22 = .ok (.bipush 8, 2) := by decide +kernel
theorem dX6_read_24 : decode cX6_read 24 = .ok (.if_icmp .eq 15, 3) := by decide +kernel
theorem dX6_read_27 : decode cX6_read 27 = .ok (.iload_n 1, 1) := by decide +kernel
theorem dX6_read_28 : decode cX6_read 28 = .ok (.i2l, 1) := by decide +kernel
theorem dX6_read_29 : decode cX6_read 29 = .ok (.lconst 1, 1) := by decide +kernel
theorem dX6_read_30 : decode cX6_read 30 = .ok (.ldc2_w 397, 3) := by decide +kernel
theorem dX6_read_33 : decode cX6_read 33 = .ok (.invokestatic 160, 3) := by decide +kernel
theorem dX6_read_36 : decode cX6_read 36 = .ok (.ifCond .ne 9, 3) := by decide +kernel
theorem dX6_read_39 : decode cX6_read 39 = .ok (.aload_n 0, 1) := by decide +kernel
theorem dX6_read_40 : decode cX6_read 40 = .ok (.iconst 2, 1) := by decide +kernel
theorem dX6_read_41 : decode cX6_read 41 = .ok (.invokevirtual 399, 3) := by decide +kernel
theorem dX6_read_44 : decode cX6_read 44 = .ok (.ireturn, 1) := by decide +kernel
theorem dX6_read_45 : decode cX6_read 45 = .ok (.aload_n 0, 1) := by decide +kernel
theorem dX6_read_46 : decode cX6_read 46 = .ok (.getfield 118, 3) := by decide +kernel
theorem dX6_read_49 : decode cX6_read 49 = .ok (.aload_n 0, 1) := by decide +kernel
theorem dX6_read_50 : decode cX6_read 50 = .ok (.getfield 319, 3) := by decide +kernel
theorem dX6_read_53 : decode cX6_read 53 = .ok (.iload_n 1, 1) := by decide +kernel
theorem dX6_read_54 : decode cX6_read 54 = .ok (.iastore, 1) := by decide +kernel
theorem dX6_read_55 : decode cX6_read 55 = .ok (.aload_n 0, 1) := by decide +kernel
theorem dX6_read_56 : decode cX6_read 56 = .ok (.getfield 121, 3) := by decide +kernel
theorem dX6_read_59 : decode cX6_read 59 = .ok (.aload_n 0, 1) := by decide +kernel
theorem dX6_read_60 : decode cX6_read 60 = .ok (.getfield 319, 3) := by decide +kernel
theorem dX6_read_63 : decode cX6_read 63 = .ok (.iload_n 2, 1) := by decide +kernel
theorem dX6_read_64 : decode cX6_read 64 = .ok (.iastore, 1) := by decide +kernel
theorem dX6_read_65 : decode cX6_read 65 = .ok (.aload_n 0, 1) := by decide +kernel
theorem dX6_read_66 : decode cX6_read 66 = .ok (.dup, 1) := by decide +kernel
theorem dX6_read_67 : decode cX6_read 67 = .ok (.getfield 319, 3) := by decide +kernel
theorem dX6_read_70 : decode cX6_read 70 = .ok (.iconst 1, 1) := by decide +kernel
theorem dX6_read_71 : decode cX6_read 71 = .ok (.iadd, 1) := by decide +kernel
theorem dX6_read_72 : decode cX6_read 72 = .ok (.putfield 319, 3) := by decide +kernel
theorem dX6_read_75 : decode cX6_read 75 = .ok (.aload_n 0, 1) := by decide +kernel
theorem dX6_read_76 : decode cX6_read 76 = .ok (.getfield 319, 3) := by decide +kernel
theorem dX6_read_79 : decode cX6_read 79 = .ok (.ireturn, 1) := by decide +kernel
theorem dX6_isAsRead_0 : decode cX6_isAsRead 0 = .ok (.aload_n 0, 1) := by decide +kernel
theorem dX6_isAsRead_1 : decode cX6_isAsRead 1 = .ok (.aload_n 0, 1) := by decide +kernel
theorem dX6_isAsRead_2 : decode cX6_isAsRead 2 = .ok (.getfield 124, 3) := by decide +kernel
theorem dX6_isAsRead_5 : decode cX6_isAsRead 5 = .ok (.iconst 0, 1) := by decide +kernel
theorem dX6_isAsRead_6 : decode cX6_isAsRead 6 = .ok (.invokevirtual 372, 3) := by decide +kernel
theorem dX6_isAsRead_9 : decode cX6_isAsRead 9 = .ok (.iconst 1, 1) := by decide +kernel
theorem dX6_isAsRead_10 : decode cX6_isAsRead 10 = .ok (.istore_n 1, 1) := by decide +kernel
theorem dX6_isAsRead_11 : decode cX6_isAsRead 11 = .ok (.iconst 1, 1) := by decide +kernel
theorem dX6_isAsRead_12 : decode cX6_isAsRead 12 = .ok (.istore_n 2, 1) := by decide +kernel
theorem dX6_isAsRead_13 : decode cX6_isAsRead 13 = .ok (.iload_n 2, 1) := by decide +kernel
theorem dX6_isAsRead_14 : decode cX6_isAsRead 14 = .ok (.bipush 20, 2) := by decide +kernel
theorem dX6_isAsRead_16 : decode cX6_isAsRead 16 = .ok (.if_icmp .gt 66, 3) := by decide +kernel
theorem dX6_isAsRead_19 : decode cX6_isAsRead 19 = .ok (.iload_n 1, 1) := by decide +kernel
theorem dX6_isAsRead_20 : decode cX6_isAsRead 20 = .ok (.ifCond .eq 62, 3) := by decide +kernel
theorem dX6_isAsRead_23 : decode cX6_isAsRead 23 = .ok (.aload_n 0, 1) := by decide +kernel
theorem dX6_isAsRead_24 : decode cX6_isAsRead 24 = .ok (.invokevirtual 369, 3) := by decide +kernel
theorem dX6_isAsRead_27 : decode cX6_isAsRead 27 = .ok (.iconst 0, 1) := by decide +kernel
theorem dX6_isAsRead_28 : decode cX6_isAsRead 28 = .ok (.istore_n 3, 1) := by decide +kernel
theorem dX6_isAsRead_29 : decode cX6_isAsRead 29 = .ok (.iload_n 3, 1) := by decide +kernel
theorem dX6_isAsRead_30 : decode cX6_isAsRead 30 = .ok (.aload_n 0, 1) := by decide +kernel
theorem dX6_isAsRead_31 : decode cX6_isAsRead 31 = .ok (.getfield 319, 3) := by decide +kernel
theorem dX6_isAsRead_34 : decode cX6_isAsRead 34 = .ok (.if_icmp .ge 42, 3) := by decide +kernel
theorem dX6_isAsRead_37 : decode cX6_isAsRead 37 = .ok (.iload_n 1, 1) := by decide +kernel
theorem dX6_isAsRead_38 : decode cX6_isAsRead 38 = .ok (.ifCond .eq 30, 3) := by decide +kernel
theorem dX6_isAsRead_41 : decode cX6_isAsRead 41 = .ok (.aload_n 0, 1) := by decide +kernel
theorem dX6_isAsRead_42 : decode cX6_isAsRead 42 = .ok (.getfield 118, 3) := by decide +kernel
theorem dX6_isAsRead_45 : decode cX6_isAsRead 45 = .ok (.iload_n 3, 1) := by decide +kernel
theorem dX6_isAsRead_46 : decode cX6_isAsRead 46 = .ok (.iaload, 1) := by decide +kernel
theorem dX6_isAsRead_47 : decode cX6_isAsRead 47 = .ok (.iload_n 2, 1) := by decide +kernel
theorem dX6_isAsRead_48 : decode cX6_isAsRead 48 = .ok (.if_icmp .ne 16, 3) := by decide +kernel
theorem dX6_isAsRead_51 : decode cX6_isAsRead 51 = .ok (.aload_n 0, 1) := by decide +kernel
theorem dX6_isAsRead_52 : decode cX6_isAsRead 52 = .ok (.getfield 121, 3) := by decide +kernel
theorem dX6_isAsRead_55 : decode cX6_isAsRead 55 = .ok (.iload_n 3, 1) := by decide +kernel
theorem dX6_isAsRead_56 : decode cX6_isAsRead 56 = .ok (.iaload, 1) := by decide +kernel
theorem dX6_isAsRead_57 : decode cX6_isAsRead 57 = .ok (.aload_n 0, 1) := by decide +kernel
theorem dX6_isAsRead_58 : decode cX6_isAsRead 58 = .ok (.getfield 154, 3) := by decide +kernel
theorem dX6_isAsRead_61 : decode cX6_isAsRead 61 = .ok (.if_icmp .ne 7, 3) := by decide +kernel
theorem dX6_isAsRead_64 : decode cX6_isAsRead 64 = .ok (.iconst 1, 1) := by decide +kernel
theorem dX6_isAsRead_65 : decode cX6_isAsRead 65 = .ok (.goto 4, 3) := by decide +kernel
theorem dX6_isAsRead_68 : decode cX6_isAsRead 68 = .ok (.iconst 0, 1) := by decide +kernel
theorem dX6_isAsRead_69 : decode cX6_isAsRead 69 = .ok (.istore_n 1, 1) := by decide +kernel
theorem dX6_isAsRead_70 : decode cX6_isAsRead 70 = .ok (.iinc 3 1, 3) := by decide +kernel
theorem dX6_isAsRead_73 : decode cX6_isAsRead 73 = .ok (.goto (-44), 3) := by decide +kernel
theorem dX6_isAsRead_76 : decode cX6_isAsRead 76 = .ok (.iinc 2 1, 3) := by decide +kernel
theorem dX6_isAsRead_79 : decode cX6_isAsRead 79 = .ok (.goto (-66), 3) := by decide +kernel
theorem dX6_isAsRead_82 : decode cX6_isAsRead 82 = .ok (.aload_n 0, 1) := by decide +kernel
theorem dX6_isAsRead_83 : decode cX6_isAsRead 83 = .ok (.aload_n 0, 1) := by decide +kernel
theorem dX6_isAsRead_84 : decode cX6_isAsRead 84 = .ok (.getfield 124, 3) := by decide +kernel
theorem dX6_isAsRead_87 : decode cX6_isAsRead 87 = .ok (.iconst 0, 1) := by decide +kernel
theorem dX6_isAsRead_88 : decode cX6_isAsRead 88 = .ok (.invokevirtual 376, 3) := by decide +kernel
theorem dX6_isAsRead_91 : decode cX6_isAsRead 91 = .ok (.iload_n 1, 1) := by decide +kernel
theorem dX6_isAsRead_92 : decode cX6_isAsRead 92 = .ok (.ireturn, 1) := by decide +kernel
theorem dX6_tellFits_0 : decode cX6_tellFits 0 = .ok (.aload_n 0, 1) := by decide +kernel
theorem dX6_tellFits_1 : decode cX6_tellFits 1 = .ok (.iconst 0, 1) := by decide +kernel
theorem dX6_tellFits_2 : decode cX6_tellFits 2 = .ok (.putfield 461, 3) := by decide +kernel
theorem dX6_tellFits_5 : decode cX6_tellFits 5 = .ok (.iconst 0, 1) := by decide +kernel
theorem dX6_tellFits_6 : decode cX6_tellFits 6 = .ok (.istore_n 1, 1) := by decide +kernel
theorem dX6_tellFits_7 : decode cX6_tellFits 7 = .ok (.iload_n 1, 1) := by decide +kernel
theorem dX6_tellFits_8 : decode cX6_tellFits 8 = .ok (.aload_n 0, 1) := by decide +kernel
theorem dX6_tellFits_9 : decode cX6_tellFits 9 = .ok (.getfield 42, 3) := by decide +kernel
theorem dX6_tellFits_12 : decode cX6_tellFits 12 = .ok (.iconst 1, 1) := by decide +kernel
theorem dX6_tellFits_13 : decode cX6_tellFits 13 = .ok (.iaload, 1) := by decide +kernel
theorem dX6_tellFits_14 : decode cX6_tellFits 14 = .ok (.if_icmp .ge 84, 3) := by decide +kernel
theorem dX6_tellFits_17 : decode cX6_tellFits 17 = .ok (.aload_n 0, 1) := by decide +kernel
theorem dX6_tellFits_18 : decode cX6_tellFits 18 = .ok (.getfield 88, 3) := by decide +kernel
theorem dX6_tellFits_21 : decode cX6_tellFits 21 = .ok (.iload_n 1, 1) := by decide +kernel
theorem dX6_tellFits_22 : decode cX6_tellFits 22 = .ok (.iaload, 1) := by decide +kernel
theorem dX6_tellFits_23 : decode cX6_tellFits 23 = .ok (.istore_n 2, 1) := by decide +kernel
theorem dX6_tellFits_24 : decode cX6_tellFits 24 = .ok (.iconst 0, 1) := by decide +kernel
theorem dX6_tellFits_25 : decode cX6_tellFits 25 = .ok (.istore_n 3, 1) := by decide +kernel
theorem dX6_tellFits_26 : decode cX6_tellFits 26 = .ok (.iload_n 3, 1) := by decide +kernel
theorem dX6_tellFits_27 : decode cX6_tellFits 27 = .ok (.bipush 12, 2) := by decide +kernel
theorem dX6_tellFits_29 : decode cX6_tellFits 29 = .ok (.if_icmp .gt 56, 3) := by decide +kernel
theorem dX6_tellFits_32 : decode cX6_tellFits 32 = .ok (.aload_n 0, 1) := by decide +kernel
theorem dX6_tellFits_33 : decode cX6_tellFits 33 = .ok (.getfield 88, 3) := by decide +kernel
theorem dX6_tellFits_36 : decode cX6_tellFits 36 = .ok (.iload_n 1, 1) := by decide +kernel
theorem dX6_tellFits_37 : decode cX6_tellFits 37 = .ok (.iload_n 3, 1) := by decide +kernel
theorem dX6_tellFits_38 : decode cX6_tellFits 38 = .ok (.iastore, 1) := by decide +kernel
theorem dX6_tellFits_39 : decode cX6_tellFits 39 = .ok (.iload_n 3, 1) := by decide +kernel
theorem dX6_tellFits_40 : decode cX6_tellFits 40 = .ok (.iload_n 2, 1) := by decide +kernel
theorem dX6_tellFits_41 : decode cX6_tellFits 41 = .ok (.if_icmp .eq 38, 3) := by decide +kernel
theorem dX6_tellFits_44 : decode cX6_tellFits 44 = .ok (.aload_n 0, 1) := by decide +kernel
theorem dX6_tellFits_45 : decode cX6_tellFits 45 = .ok (.invokevirtual 464, 3) := by decide +kernel
theorem dX6_tellFits_48 : decode cX6_tellFits 48 = .ok (.ifCond .ne 6, 3) := by decide +kernel
theorem dX6_tellFits_51 : decode cX6_tellFits 51 = .ok (.goto 28, 3) := by decide +kernel
theorem dX6_tellFits_54 : decode cX6_tellFits 54 = .ok (.aload_n 0, 1) := by decide +kernel
theorem dX6_tellFits_55 : decode cX6_tellFits 55 = .ok (.getfield 127, 3) := by decide +kernel
theorem dX6_tellFits_58 : decode cX6_tellFits 58 = .ok (.aload_n 0, 1) := by decide +kernel
theorem dX6_tellFits_59 : decode cX6_tellFits 59 = .ok (.getfield 461, 3) := by decide +kernel
theorem dX6_tellFits_62 : decode cX6_tellFits 62 = .ok (.bipush 100, 2) := by decide +kernel
theorem dX6_tellFits_64 : decode cX6_tellFits 64 = .ok (.iload_n 1, 1) := by decide +kernel
theorem dX6_tellFits_65 : decode cX6_tellFits 65 = .ok (.imul, 1) := by decide +kernel
theorem dX6_tellFits_66 : decode cX6_tellFits 66 = .ok (.iload_n 3, 1) := by decide +kernel
theorem dX6_tellFits_67 : decode cX6_tellFits 67 = .ok (.iadd, 1) := by decide +kernel
theorem dX6_tellFits_68 : decode cX6_tellFits 68 = .ok (.iastore, 1) := by decide +kernel
theorem dX6_tellFits_69 : decode cX6_tellFits 69 = .ok (.aload_n 0, 1) := by decide +kernel
theorem dX6_tellFits_70 : decode cX6_tellFits 70 = .ok (.dup, 1) := by decide +kernel
theorem dX6_tellFits_71 : decode cX6_tellFits 71 = .ok (.getfield 461, 3) := by decide +kernel
theorem dX6_tellFits_74 : decode cX6_tellFits 74 = .ok (.iconst 1, 1) := by decide +kernel
theorem dX6_tellFits_75 : decode cX6_tellFits 75 = .ok (.iadd, 1) := by decide +kernel
theorem dX6_tellFits_76 : decode cX6_tellFits 76 = .ok (.putfield 461, 3) := by decide +kernel
theorem dX6_tellFits_79 : decode cX6_tellFits 79 = .ok (.iinc 3 1, 3) := by decide +kernel
theorem dX6_tellFits_82 : decode cX6_tellFits 82 = .ok (.goto (-56), 3) := by decide +kernel
theorem dX6_tellFits_85 : decode cX6_tellFits 85 = .ok (.aload_n 0, 1) := by decide +kernel
theorem dX6_tellFits_86 : decode cX6_tellFits 86 = .ok (.getfield 88, 3) := by decide +kernel
theorem dX6_tellFits_89 : decode cX6_tellFits 89 = .ok (.iload_n 1, 1) := by decide +kernel
theorem dX6_tellFits_90 : decode cX6_tellFits 90 = .ok (.iload_n 2, 1) := by decide +kernel
theorem dX6_tellFits_91 : decode cX6_tellFits 91 = .ok (.iastore, 1) := by decide +kernel
theorem dX6_tellFits_92 : decode cX6_tellFits 92 = .ok (.iinc 1 1, 3) := by decide +kernel
theorem dX6_tellFits_95 : decode cX6_tellFits 95 = .ok (.goto (-88), 3) := by decide +kernel
theorem dX6_tellFits_98 : decode cX6_tellFits 98 = .ok (.return_, 1) := by decide +kernel
theorem dX6_handed_0 : decode cX6_handed 0 = .ok (.aload_n 0, 1) := by decide +kernel
theorem dX6_handed_1 : decode cX6_handed 1 = .ok (.iconst 0, 1) := by decide +kernel
theorem dX6_handed_2 : decode cX6_handed 2 = .ok (.putfield 157, 3) := by decide +kernel
theorem dX6_handed_5 : decode cX6_handed 5 = .ok (.iload_n 1, 1) := by decide +kernel
theorem dX6_handed_6 : decode cX6_handed 6 = .ok (.i2l, 1) := by decide +kernel
theorem dX6_handed_7 : decode cX6_handed 7 = .ok (.lconst 0, 1) := by decide +kernel
theorem dX6_handed_8 : decode cX6_handed 8 = .ok (.ldc2_w 468, 3) := by decide +kernel
theorem dX6_handed_11 : decode cX6_handed 11 = .ok (.invokestatic 160, 3) := by decide +kernel
theorem dX6_handed_14 : decode cX6_handed 14 = .ok (.ifCond .ne 9, 3) := by decide +kernel
theorem dX6_handed_17 : decode cX6_handed 17 = .ok (.aload_n 0, 1) := by decide +kernel
theorem dX6_handed_18 : decode cX6_handed 18 = .ok (.iconst 1, 1) := by decide +kernel
theorem dX6_handed_19 : decode cX6_handed 19 = .ok (.invokevirtual 300, 3) := by decide +kernel
theorem dX6_handed_22 : decode cX6_handed 22 = .ok (.ireturn, 1) := by decide +kernel
theorem dX6_handed_23 : decode cX6_handed 23 = .ok (.iload_n 1, 1) := by decide +kernel
theorem dX6_handed_24 : decode cX6_handed 24 = .ok (.iconst 2, 1) := by decide +kernel
theorem dX6_handed_25 : decode cX6_handed 25 = .ok (.if_icmp .ne 16, 3) := by decide +kernel
theorem dX6_handed_28 : decode cX6_handed 28 = .ok (.aload_n 0, 1) := by decide +kernel
theorem dX6_handed_29 : decode cX6_handed 29 = .ok (.invokevirtual 464, 3) := by decide +kernel
theorem dX6_handed_32 : decode cX6_handed 32 = .ok (.ifCond .eq 7, 3) := by decide +kernel
theorem dX6_handed_35 : decode cX6_handed 35 = .ok (.iconst 1, 1) := by decide +kernel
theorem dX6_handed_36 : decode cX6_handed 36 = .ok (.goto 4, 3) := by decide +kernel
theorem dX6_handed_39 : decode cX6_handed 39 = .ok (.iconst 0, 1) := by decide +kernel
theorem dX6_handed_40 : decode cX6_handed 40 = .ok (.ireturn, 1) := by decide +kernel
theorem dX6_handed_41 : decode cX6_handed 41 = .ok (.aload_n 0, 1) := by decide +kernel
theorem dX6_handed_42 : decode cX6_handed 42 = .ok (.invokevirtual 470, 3) := by decide +kernel
theorem dX6_handed_45 : decode cX6_handed 45 = .ok (.iload_n 1, 1) := by decide +kernel
theorem dX6_handed_46 : decode cX6_handed 46 = .ok (.ifCond .ne 10, 3) := by decide +kernel
theorem dX6_handed_49 : decode cX6_handed 49 = .ok (.aload_n 0, 1) := by decide +kernel
theorem dX6_handed_50 : decode cX6_handed 50 = .ok (.getfield 461, 3) := by decide +kernel
theorem dX6_handed_53 : decode cX6_handed 53 = .ok (.goto 20, 3) := by decide +kernel
theorem dX6_handed_56 : decode cX6_handed 56 = .ok (.aload_n 0, 1) := by decide +kernel
theorem dX6_handed_57 : decode cX6_handed 57 = .ok (.getfield 461, 3) := by decide +kernel
theorem dX6_handed_60 : decode cX6_handed 60 = .ok (.ifCond .ne 7, 3) := by decide +kernel
theorem dX6_handed_63 : decode cX6_handed 63 = .ok (.iconst (-1), 1) := by decide +kernel
theorem dX6_handed_64 : decode cX6_handed 64 = .ok (.goto 9, 3) := by decide +kernel
theorem dX6_handed_67 : decode cX6_handed 67 = .ok (.aload_n 0, 1) := by decide +kernel
theorem dX6_handed_68 : decode cX6_handed 68 = .ok (.getfield 127, 3) := by decide +kernel
theorem dX6_handed_71 : decode cX6_handed 71 = .ok (.iconst 0, 1) := by decide +kernel
theorem dX6_handed_72 : decode cX6_handed 72 = .ok (.iaload, 1) := by decide +kernel
theorem dX6_handed_73 : decode cX6_handed 73 = .ok (.ireturn, 1) := by decide +kernel
theorem dX6_unlike_0 : decode cX6_unlike 0 = .ok (.iconst 0, 1) := by decide +kernel
theorem dX6_unlike_1 : decode cX6_unlike 1 = .ok (.istore_n 2, 1) := by decide +kernel
theorem dX6_unlike_2 : decode cX6_unlike 2 = .ok (.iconst 0, 1) := by decide +kernel
theorem dX6_unlike_3 : decode cX6_unlike 3 = .ok (.istore_n 3, 1) := by decide +kernel
theorem dX6_unlike_4 : decode cX6_unlike 4 = .ok (.iload_n 3, 1) := by decide +kernel
theorem dX6_unlike_5 : decode cX6_unlike 5 = .ok (.aload_n 0, 1) := by decide +kernel
theorem dX6_unlike_6 : decode cX6_unlike 6 = .ok (.getfield 461, 3) := by decide +kernel
theorem dX6_unlike_9 : decode cX6_unlike 9 = .ok (.if_icmp .ge 25, 3) := by decide +kernel
theorem dX6_unlike_12 : decode cX6_unlike 12 = .ok (.iload_n 2, 1) := by decide +kernel
theorem dX6_unlike_13 : decode cX6_unlike 13 = .ok (.iconst 1, 1) := by decide +kernel
theorem dX6_unlike_14 : decode cX6_unlike 14 = .ok (.aload_n 0, 1) := by decide +kernel
theorem dX6_unlike_15 : decode cX6_unlike 15 = .ok (.getfield 130, 3) := by decide +kernel
theorem dX6_unlike_18 : decode cX6_unlike 18 = .ok (.bipush 20, 2) := by decide +kernel
theorem dX6_unlike_20 : decode cX6_unlike 20 = .ok (.iload_n 3, 1) := by decide +kernel
theorem dX6_unlike_21 : decode cX6_unlike 21 = .ok (.imul, 1) := by decide +kernel
theorem dX6_unlike_22 : decode cX6_unlike 22 = .ok (.iload_n 1, 1) := by decide +kernel
theorem dX6_unlike_23 : decode cX6_unlike 23 = .ok (.iadd, 1) := by decide +kernel
theorem dX6_unlike_24 : decode cX6_unlike 24 = .ok (.iaload, 1) := by decide +kernel
theorem dX6_unlike_25 : decode cX6_unlike 25 = .ok (.ishl, 1) := by decide +kernel
theorem dX6_unlike_26 : decode cX6_unlike 26 = .ok (.ior, 1) := by decide +kernel
theorem dX6_unlike_27 : decode cX6_unlike 27 = .ok (.istore_n 2, 1) := by decide +kernel
theorem dX6_unlike_28 : decode cX6_unlike 28 = .ok (.iinc 3 1, 3) := by decide +kernel
theorem dX6_unlike_31 : decode cX6_unlike 31 = .ok (.goto (-27), 3) := by decide +kernel
theorem dX6_unlike_34 : decode cX6_unlike 34 = .ok (.iload_n 2, 1) := by decide +kernel
theorem dX6_unlike_35 : decode cX6_unlike 35 = .ok (.invokestatic 332, 3) := by decide +kernel
theorem dX6_unlike_38 : decode cX6_unlike 38 = .ok (.ireturn, 1) := by decide +kernel
theorem dX6_look_0 : decode cX6_look 0 = .ok (.aload_n 0, 1) := by decide +kernel
theorem dX6_look_1 : decode cX6_look 1 = .ok (.iconst 0, 1) := by decide +kernel
theorem dX6_look_2 : decode cX6_look 2 = .ok (.putfield 157, 3) := by decide +kernel
theorem dX6_look_5 : decode cX6_look 5 = .ok (.iload_n 1, 1) := by decide +kernel
theorem dX6_look_6 : decode cX6_look 6 = .ok (.i2l, 1) := by decide +kernel
theorem dX6_look_7 : decode cX6_look 7 = .ok (.lconst 0, 1) := by decide +kernel
theorem dX6_look_8 : decode cX6_look 8 = .ok (.lconst 1, 1) := by decide +kernel
theorem dX6_look_9 : decode cX6_look 9 = .ok (.invokestatic 160, 3) := by decide +kernel
theorem dX6_look_12 : decode cX6_look 12 = .ok (.ifCond .ne 9, 3) := by decide +kernel
theorem dX6_look_15 : decode cX6_look 15 = .ok (.aload_n 0, 1) := by decide +kernel
theorem dX6_look_16 : decode cX6_look 16 = .ok (.iconst 1, 1) := by decide +kernel
theorem dX6_look_17 : decode cX6_look 17 = .ok (.invokevirtual 300, 3) := by decide +kernel
theorem dX6_look_20 : decode cX6_look 20 = .ok (.ireturn, 1) := by decide +kernel
theorem dX6_look_21 : decode cX6_look 21 = .ok (.aload_n 0, 1) := by decide +kernel
theorem dX6_look_22 : decode cX6_look 22 = .ok (.invokevirtual 470, 3) := by decide +kernel
theorem dX6_look_25 : decode cX6_look 25 = .ok (.aload_n 0, 1) := by decide +kernel
theorem dX6_look_26 : decode cX6_look 26 = .ok (.aload_n 0, 1) := by decide +kernel
theorem dX6_look_27 : decode cX6_look 27 = .ok (.getfield 103, 3) := by decide +kernel
theorem dX6_look_30 : decode cX6_look 30 = .ok (.iconst 0, 1) := by decide +kernel
theorem dX6_look_31 : decode cX6_look 31 = .ok (.invokevirtual 372, 3) := by decide +kernel
theorem dX6_look_34 : decode cX6_look 34 = .ok (.iconst 0, 1) := by decide +kernel
theorem dX6_look_35 : decode cX6_look 35 = .ok (.istore_n 2, 1) := by decide +kernel
theorem dX6_look_36 : decode cX6_look 36 = .ok (.iload_n 2, 1) := by decide +kernel
theorem dX6_look_37 : decode cX6_look 37 = .ok (.aload_n 0, 1) := by decide +kernel
theorem dX6_look_38 : decode cX6_look 38 = .ok (.getfield 461, 3) := by decide +kernel
theorem dX6_look_41 : decode cX6_look 41 = .ok (.if_icmp .ge 74, 3) := by decide +kernel
theorem dX6_look_44 : decode cX6_look 44 = .ok (.aload_n 0, 1) := by decide +kernel
theorem dX6_look_45 : decode cX6_look 45 = .ok (.getfield 88, 3) := by decide +kernel
theorem dX6_look_48 : decode cX6_look 48 = .ok (.aload_n 0, 1) := by decide +kernel
theorem dX6_look_49 : decode cX6_look 49 = .ok (.getfield 127, 3) := by decide +kernel
theorem dX6_look_52 : decode cX6_look 52 = .ok (.iload_n 2, 1) := by decide +kernel
theorem dX6_look_53 : decode cX6_look 53 = .ok (.iaload, 1) := by decide +kernel
theorem dX6_look_54 : decode cX6_look 54 = .ok (.bipush 100, 2) := by decide +kernel
theorem dX6_look_56 : decode cX6_look 56 = .ok (.idiv, 1) := by decide +kernel
theorem dX6_look_57 : decode cX6_look 57 = .ok (.aload_n 0, 1) := by decide +kernel
theorem dX6_look_58 : decode cX6_look 58 = .ok (.getfield 127, 3) := by decide +kernel
theorem dX6_look_61 : decode cX6_look 61 = .ok (.iload_n 2, 1) := by decide +kernel
theorem dX6_look_62 : decode cX6_look 62 = .ok (.iaload, 1) := by decide +kernel
theorem dX6_look_63 : decode cX6_look 63 = .ok (.bipush 100, 2) := by decide +kernel
theorem dX6_look_65 : decode cX6_look 65 = .ok (.irem, 1) := by decide +kernel
theorem dX6_look_66 : decode cX6_look 66 = .ok (.iastore, 1) := by decide +kernel
theorem dX6_look_67 : decode cX6_look 67 = .ok (.iconst 0, 1) := by decide +kernel
theorem dX6_look_68 : decode cX6_look 68 = .ok (.istore_n 3, 1) := by decide +kernel
theorem dX6_look_69 : decode cX6_look 69 = .ok (.iload_n 3, 1) := by decide +kernel
theorem dX6_look_70 : decode cX6_look 70 = .ok (.bipush 20, 2) := by decide +kernel
theorem dX6_look_72 : decode cX6_look 72 = .ok (.if_icmp .ge 28, 3) := by decide +kernel
theorem dX6_look_75 : decode cX6_look 75 = .ok (.aload_n 0, 1) := by decide +kernel
theorem dX6_look_76 : decode cX6_look 76 = .ok (.invokevirtual 369, 3) := by decide +kernel
theorem dX6_look_79 : decode cX6_look 79 = .ok (.aload_n 0, 1) := by decide +kernel
theorem dX6_look_80 : decode cX6_look 80 = .ok (.getfield 130, 3) := by decide +kernel
theorem dX6_look_83 : decode cX6_look 83 = .ok (.bipush 20, 2) := by decide +kernel
theorem dX6_look_85 : decode cX6_look 85 = .ok (.iload_n 2, 1) := by decide +kernel
theorem dX6_look_86 : decode cX6_look 86 = .ok (.imul, 1) := by decide +kernel
theorem dX6_look_87 : decode cX6_look 87 = .ok (.iload_n 3, 1) := by decide +kernel
theorem dX6_look_88 : decode cX6_look 88 = .ok (.iadd, 1) := by decide +kernel
theorem dX6_look_89 : decode cX6_look 89 = .ok (.aload_n 0, 1) := by decide +kernel
theorem dX6_look_90 : decode cX6_look 90 = .ok (.getfield 154, 3) := by decide +kernel
theorem dX6_look_93 : decode cX6_look 93 = .ok (.iastore, 1) := by decide +kernel
theorem dX6_look_94 : decode cX6_look 94 = .ok (.iinc 3 1, 3) := by decide +kernel
theorem dX6_look_97 : decode cX6_look 97 = .ok (.goto (-28), 3) := by decide +kernel
theorem dX6_look_100 : decode cX6_look 100 = .ok (.aload_n 0, 1) := by decide +kernel
theorem dX6_look_101 : decode cX6_look 101 = .ok (.aload_n 0, 1) := by decide +kernel
theorem dX6_look_102 : decode cX6_look 102 = .ok (.getfield 103, 3) := by decide +kernel
theorem dX6_look_105 : decode cX6_look 105 = .ok (.iconst 0, 1) := by decide +kernel
theorem dX6_look_106 : decode cX6_look 106 = .ok (.invokevirtual 376, 3) := by decide +kernel
theorem dX6_look_109 : decode cX6_look 109 = .ok (.iinc 2 1, 3) := by decide +kernel
theorem dX6_look_112 : decode cX6_look 112 = .ok (.goto (-76), 3) := by decide +kernel
theorem dX6_look_115 : decode cX6_look 115 = .ok (.iconst (-1), 1) := by decide +kernel
theorem dX6_look_116 : decode cX6_look 116 = .ok (.istore_n 2, 1) := by decide +kernel
theorem dX6_look_117 : decode cX6_look 117 = .ok (.iconst 0, 1) := by decide +kernel
theorem dX6_look_118 : decode cX6_look 118 = .ok (.istore_n 3, 1) := by decide +kernel
theorem dX6_look_119 : decode cX6_look 119 = .ok (.iconst 0, 1) := by decide +kernel
theorem dX6_look_120 : decode cX6_look 120 = .ok (.istore 4, 2) := by decide +kernel
theorem dX6_look_122 : decode cX6_look 122 = .ok (.iload 4, 2) := by decide +kernel
theorem dX6_look_124 : decode cX6_look 124 = .ok (.bipush 20, 2) := by decide +kernel
theorem dX6_look_126 : decode cX6_look 126 = .ok (.if_icmp .ge 34, 3) := by decide +kernel
theorem dX6_look_129 : decode cX6_look 129 = .ok (.aload_n 0, 1) := by decide +kernel
theorem dX6_look_130 : decode cX6_look 130 = .ok (.iload 4, 2) := by decide +kernel
theorem dX6_look_132 : decode cX6_look 132 = .ok (.invokevirtual 473, 3) := by decide +kernel
theorem dX6_look_135 : decode cX6_look 135 = .ok (.istore 5, 2) := by decide +kernel
theorem dX6_look_137 : decode cX6_look 137 = .ok (.iload 5, 2) := by decide +kernel
theorem dX6_look_139 : decode cX6_look 139 = .ok (.iload_n 3, 1) := by decide +kernel
theorem dX6_look_140 : decode cX6_look 140 = .ok (.if_icmp .gt 6, 3) := by decide +kernel
theorem dX6_look_143 : decode cX6_look 143 = .ok (.goto 11, 3) := by decide +kernel
theorem dX6_look_146 : decode cX6_look 146 = .ok (.iload 4, 2) := by decide +kernel
theorem dX6_look_148 : decode cX6_look 148 = .ok (.iconst 1, 1) := by decide +kernel
theorem dX6_look_149 : decode cX6_look 149 = .ok (.iadd, 1) := by decide +kernel
theorem dX6_look_150 : decode cX6_look 150 = .ok (.istore_n 2, 1) := by decide +kernel
theorem dX6_look_151 : decode cX6_look 151 = .ok (.iload 5, 2) := by decide +kernel
theorem dX6_look_153 : decode cX6_look 153 = .ok (.istore_n 3, 1) := by decide +kernel
theorem dX6_look_154 : decode cX6_look 154 = .ok (.iinc 4 1, 3) := by decide +kernel
theorem dX6_look_157 : decode cX6_look 157 = .ok (.goto (-35), 3) := by decide +kernel
theorem dX6_look_160 : decode cX6_look 160 = .ok (.iload_n 1, 1) := by decide +kernel
theorem dX6_look_161 : decode cX6_look 161 = .ok (.ifCond .ne 7, 3) := by decide +kernel
theorem dX6_look_164 : decode cX6_look 164 = .ok (.iload_n 2, 1) := by decide +kernel
theorem dX6_look_165 : decode cX6_look 165 = .ok (.goto 4, 3) := by decide +kernel
theorem dX6_look_168 : decode cX6_look 168 = .ok (.iload_n 3, 1) := by decide +kernel
theorem dX6_look_169 : decode cX6_look 169 = .ok (.ireturn, 1) := by decide +kernel
theorem dX6_forget_0 : decode cX6_forget 0 = .ok (.aload_n 0, 1) := by decide +kernel
theorem dX6_forget_1 : decode cX6_forget 1 = .ok (.iconst 0, 1) := by decide +kernel
theorem dX6_forget_2 : decode cX6_forget 2 = .ok (.putfield 157, 3) := by decide +kernel
theorem dX6_forget_5 : decode cX6_forget 5 = .ok (.aload_n 0, 1) := by decide +kernel
theorem dX6_forget_6 : decode cX6_forget 6 = .ok (.iconst 0, 1) := by decide +kernel
theorem dX6_forget_7 : decode cX6_forget 7 = .ok (.putfield 319, 3) := by decide +kernel
theorem dX6_forget_10 : decode cX6_forget 10 = .ok (.return_, 1) := by decide +kernel
theorem dX6_gainOf_0 : decode cX6_gainOf 0 = .ok (.aload_n 0, 1) := by decide +kernel
theorem dX6_gainOf_1 : decode cX6_gainOf 1 = .ok (.getfield 133, 3) := by decide +kernel
theorem dX6_gainOf_4 : decode cX6_gainOf 4 = .ok (.iload_n 2, 1) := by decide +kernel
theorem dX6_gainOf_5 : decode cX6_gainOf 5 = .ok (.iaload, 1) := by decide +kernel
theorem dX6_gainOf_6 : decode cX6_gainOf 6 = .ok (.aload_n 0, 1) := by decide +kernel
theorem dX6_gainOf_7 : decode cX6_gainOf 7 = .ok (.getfield 61, 3) := by decide +kernel
theorem dX6_gainOf_10 : decode cX6_gainOf 10 = .ok (.iload_n 1, 1) := by decide +kernel
theorem dX6_gainOf_11 : decode cX6_gainOf 11 = .ok (.iaload, 1) := by decide +kernel
theorem dX6_gainOf_12 : decode cX6_gainOf 12 = .ok (.if_icmp .ne 7, 3) := by decide +kernel
theorem dX6_gainOf_15 : decode cX6_gainOf 15 = .ok (.iconst 5, 1) := by decide +kernel
theorem dX6_gainOf_16 : decode cX6_gainOf 16 = .ok (.goto 4, 3) := by decide +kernel
theorem dX6_gainOf_19 : decode cX6_gainOf 19 = .ok (.iconst 0, 1) := by decide +kernel
theorem dX6_gainOf_20 : decode cX6_gainOf 20 = .ok (.iload_n 3, 1) := by decide +kernel
theorem dX6_gainOf_21 : decode cX6_gainOf 21 = .ok (.isub, 1) := by decide +kernel
theorem dX6_gainOf_22 : decode cX6_gainOf 22 = .ok (.ireturn, 1) := by decide +kernel
theorem dX6_game_0 : decode cX6_game 0 = .ok (.aload_n 0, 1) := by decide +kernel
theorem dX6_game_1 : decode cX6_game 1 = .ok (.iconst 0, 1) := by decide +kernel
theorem dX6_game_2 : decode cX6_game 2 = .ok (.putfield 157, 3) := by decide +kernel
theorem dX6_game_5 : decode cX6_game 5 = .ok (.aload_n 0, 1) := by decide +kernel
theorem dX6_game_6 : decode cX6_game 6 = .ok (.iload_n 1, 1) := by decide +kernel
theorem dX6_game_7 : decode cX6_game 7 = .ok (.invokevirtual 385, 3) := by decide +kernel
theorem dX6_game_10 : decode cX6_game 10 = .ok (.ifCond .eq 21, 3) := by decide +kernel
theorem dX6_game_13 : decode cX6_game 13 = .ok (.aload_n 0, 1) := by decide +kernel
theorem dX6_game_14 : decode cX6_game 14 = .ok (.iload_n 2, 1) := by decide +kernel
theorem dX6_game_15 : decode cX6_game 15 = .ok (.invokevirtual 385, 3) := by decide +kernel
theorem dX6_game_18 : decode cX6_game 18 = .ok (.ifCond .eq 13, 3) := by decide +kernel
theorem dX6_game_21 : decode cX6_game 21 = .ok (.iload_n 3, 1) := by decide +kernel
theorem dX6_game_22 : decode cX6_game 22 = .ok (.i2l, 1) := by decide +kernel
theorem dX6_game_23 : decode cX6_game 23 = .ok (.lconst 0, 1) := by decide +kernel
theorem dX6_game_24 : decode cX6_game 24 = .ok (.lconst 1, 1) := by decide +kernel
theorem dX6_game_25 : decode cX6_game 25 = .ok (.invokestatic 160, 3) := by decide +kernel
theorem dX6_game_28 : decode cX6_game 28 = .ok (.ifCond .ne 9, 3) := by decide +kernel
theorem dX6_game_31 : decode cX6_game 31 = .ok (.aload_n 0, 1) := by decide +kernel
theorem dX6_game_32 : decode cX6_game 32 = .ok (.iconst 1, 1) := by decide +kernel
theorem dX6_game_33 : decode cX6_game 33 = .ok (.invokevirtual 300, 3) := by decide +kernel
theorem dX6_game_36 : decode cX6_game 36 = .ok (.ireturn, 1) := by decide +kernel
theorem dX6_game_37 : decode cX6_game 37 = .ok (.iload_n 1, 1) := by decide +kernel
theorem dX6_game_38 : decode cX6_game 38 = .ok (.iload_n 2, 1) := by decide +kernel
theorem dX6_game_39 : decode cX6_game 39 = .ok (.if_icmp .ne 9, 3) := by decide +kernel
theorem dX6_game_42 : decode cX6_game 42 = .ok (.aload_n 0, 1) := by decide +kernel
theorem dX6_game_43 : decode cX6_game 43 = .ok (.iconst 2, 1) := by decide +kernel
theorem dX6_game_44 : decode cX6_game 44 = .ok (.invokevirtual 300, 3) := by decide +kernel
theorem dX6_game_47 : decode cX6_game 47 = .ok (.ireturn, 1) := by decide +kernel
theorem dX6_game_48 : decode cX6_game 48 = .ok (.iconst 0, 1) := by decide +kernel
theorem dX6_game_49 : decode cX6_game 49 = .ok (.istore 4, 2) := by decide +kernel
theorem dX6_game_51 : decode cX6_game 51 = .ok (.iload 4, 2) := by decide +kernel
theorem dX6_game_53 : decode cX6_game 53 = .ok (.iconst 4, 1) := by decide +kernel
theorem dX6_game_54 : decode cX6_game 54 = .ok (.if_icmp .ge 65, 3) := by decide +kernel
theorem dX6_game_57 : decode cX6_game 57 = .ok (.iload 4, 2) := by decide +kernel
theorem dX6_game_59 : decode cX6_game 59 = .ok (.iconst 2, 1) := by decide +kernel
theorem dX6_game_60 : decode cX6_game 60 = .ok (.idiv, 1) := by decide +kernel
theorem dX6_game_61 : decode cX6_game 61 = .ok (.iconst 1, 1) := by decide +kernel
theorem dX6_game_62 : decode cX6_game 62 = .ok (.if_icmp .ne 9, 3) := by decide +kernel
theorem dX6_game_65 : decode cX6_game 65 = .ok (.iconst 1, 1) := by decide +kernel
theorem dX6_game_66 : decode cX6_game 66 = .ok (.iload_n 1, 1) := by decide +kernel
theorem dX6_game_67 : decode cX6_game 67 = .ok (.ishl, 1) := by decide +kernel
theorem dX6_game_68 : decode cX6_game 68 = .ok (.goto 4, 3) := by decide +kernel
theorem dX6_game_71 : decode cX6_game 71 = .ok (.iconst 0, 1) := by decide +kernel
theorem dX6_game_72 : decode cX6_game 72 = .ok (.iload 4, 2) := by decide +kernel
theorem dX6_game_74 : decode cX6_game 74 = .ok (.iconst 2, 1) := by decide +kernel
theorem dX6_game_75 : decode cX6_game 75 = .ok (.irem, 1) := by decide +kernel
theorem dX6_game_76 : decode cX6_game 76 = .ok (.iconst 1, 1) := by decide +kernel
theorem dX6_game_77 : decode cX6_game 77 = .ok (.if_icmp .ne 9, 3) := by decide +kernel
theorem dX6_game_80 : decode cX6_game 80 = .ok (.iconst 1, 1) := by decide +kernel
theorem dX6_game_81 : decode cX6_game 81 = .ok (.iload_n 2, 1) := by decide +kernel
theorem dX6_game_82 : decode cX6_game 82 = .ok (.ishl, 1) := by decide +kernel
theorem dX6_game_83 : decode cX6_game 83 = .ok (.goto 4, 3) := by decide +kernel
theorem dX6_game_86 : decode cX6_game 86 = .ok (.iconst 0, 1) := by decide +kernel
theorem dX6_game_87 : decode cX6_game 87 = .ok (.ior, 1) := by decide +kernel
theorem dX6_game_88 : decode cX6_game 88 = .ok (.istore 5, 2) := by decide +kernel
theorem dX6_game_90 : decode cX6_game 90 = .ok (.aload_n 0, 1) := by decide +kernel
theorem dX6_game_91 : decode cX6_game 91 = .ok (.iload 5, 2) := by decide +kernel
theorem dX6_game_93 : decode cX6_game 93 = .ok (.invokevirtual 455, 3) := by decide +kernel
theorem dX6_game_96 : decode cX6_game 96 = .ok (.aload_n 0, 1) := by decide +kernel
theorem dX6_game_97 : decode cX6_game 97 = .ok (.getfield 133, 3) := by decide +kernel
theorem dX6_game_100 : decode cX6_game 100 = .ok (.iload 4, 2) := by decide +kernel
theorem dX6_game_102 : decode cX6_game 102 = .ok (.aload_n 0, 1) := by decide +kernel
theorem dX6_game_103 : decode cX6_game 103 = .ok (.invokevirtual 433, 3) := by decide +kernel
theorem dX6_game_106 : decode cX6_game 106 = .ok (.iastore, 1) := by decide +kernel
theorem dX6_game_107 : decode cX6_game 107 = .ok (.aload_n 0, 1) := by decide +kernel
theorem dX6_game_108 : decode cX6_game 108 = .ok (.iload 5, 2) := by decide +kernel
theorem dX6_game_110 : decode cX6_game 110 = .ok (.invokevirtual 455, 3) := by decide +kernel
theorem dX6_game_113 : decode cX6_game 113 = .ok (.iinc 4 1, 3) := by decide +kernel
theorem dX6_game_116 : decode cX6_game 116 = .ok (.goto (-65), 3) := by decide +kernel
theorem dX6_game_119 : decode cX6_game 119 = .ok (.iconst 0, 1) := by decide +kernel
theorem dX6_game_120 : decode cX6_game 120 = .ok (.istore 4, 2) := by decide +kernel
theorem dX6_game_122 : decode cX6_game 122 = .ok (.iconst (-1), 1) := by decide +kernel
theorem dX6_game_123 : decode cX6_game 123 = .ok (.istore 5, 2) := by decide +kernel
theorem dX6_game_125 : decode cX6_game 125 = .ok (.iconst 0, 1) := by decide +kernel
theorem dX6_game_126 : decode cX6_game 126 = .ok (.istore 6, 2) := by decide +kernel
theorem dX6_game_128 : decode cX6_game 128 = .ok (.iload 6, 2) := by decide +kernel
theorem dX6_game_130 : decode cX6_game 130 = .ok (.iconst 4, 1) := by decide +kernel
theorem dX6_game_131 : decode cX6_game 131 = .ok (.if_icmp .ge 98, 3) := by decide +kernel
theorem dX6_game_134 : decode cX6_game 134 = .ok (.iload 6, 2) := by decide +kernel
theorem dX6_game_136 : decode cX6_game 136 = .ok (.iconst 2, 1) := by decide +kernel
theorem dX6_game_137 : decode cX6_game 137 = .ok (.idiv, 1) := by decide +kernel
theorem dX6_game_138 : decode cX6_game 138 = .ok (.istore 7, 2) := by decide +kernel
theorem dX6_game_140 : decode cX6_game 140 = .ok (.iload 6, 2) := by decide +kernel
theorem dX6_game_142 : decode cX6_game 142 = .ok (.iconst 2, 1) := by decide +kernel
theorem dX6_game_143 : decode cX6_game 143 = .ok (.irem, 1) := by decide +kernel
theorem dX6_game_144 : decode cX6_game 144 = .ok (.istore 8, 2) := by decide +kernel
theorem dX6_game_146 : decode cX6_game 146 = .ok (.aload_n 0, 1) := by decide +kernel
theorem dX6_game_147 : decode cX6_game 147 = .ok (.iload_n 1, 1) := by decide +kernel
theorem dX6_game_148 : decode cX6_game 148 = .ok (.iload 6, 2) := by decide +kernel
theorem dX6_game_150 : decode cX6_game 150 = .ok (.iconst 2, 1) := by decide +kernel
theorem dX6_game_151 : decode cX6_game 151 = .ok (.ixor, 1) := by decide +kernel
theorem dX6_game_152 : decode cX6_game 152 = .ok (.iconst 1, 1) := by decide +kernel
theorem dX6_game_153 : decode cX6_game 153 = .ok (.iload 7, 2) := by decide +kernel
theorem dX6_game_155 : decode cX6_game 155 = .ok (.isub, 1) := by decide +kernel
theorem dX6_game_156 : decode cX6_game 156 = .ok (.invokevirtual 476, 3) := by decide +kernel
theorem dX6_game_159 : decode cX6_game 159 = .ok (.aload_n 0, 1) := by decide +kernel
theorem dX6_game_160 : decode cX6_game 160 = .ok (.iload_n 1, 1) := by decide +kernel
theorem dX6_game_161 : decode cX6_game 161 = .ok (.iload 6, 2) := by decide +kernel
theorem dX6_game_163 : decode cX6_game 163 = .ok (.iload 7, 2) := by decide +kernel
theorem dX6_game_165 : decode cX6_game 165 = .ok (.invokevirtual 476, 3) := by decide +kernel
theorem dX6_game_168 : decode cX6_game 168 = .ok (.if_icmp .gt 55, 3) := by decide +kernel
theorem dX6_game_171 : decode cX6_game 171 = .ok (.aload_n 0, 1) := by decide +kernel
theorem dX6_game_172 : decode cX6_game 172 = .ok (.iload_n 2, 1) := by decide +kernel
theorem dX6_game_173 : decode cX6_game 173 = .ok (.iload 6, 2) := by decide +kernel
theorem dX6_game_175 : decode cX6_game 175 = .ok (.iconst 1, 1) := by decide +kernel
theorem dX6_game_176 : decode cX6_game 176 = .ok (.ixor, 1) := by decide +kernel
theorem dX6_game_177 : decode cX6_game 177 = .ok (.iconst 1, 1) := by decide +kernel
theorem dX6_game_178 : decode cX6_game 178 = .ok (.iload 8, 2) := by decide +kernel
theorem dX6_game_180 : decode cX6_game 180 = .ok (.isub, 1) := by decide +kernel
theorem dX6_game_181 : decode cX6_game 181 = .ok (.invokevirtual 476, 3) := by decide +kernel
theorem dX6_game_184 : decode cX6_game 184 = .ok (.aload_n 0, 1) := by decide +kernel
theorem dX6_game_185 : decode cX6_game 185 = .ok (.iload_n 2, 1) := by decide +kernel
theorem dX6_game_186 : decode cX6_game 186 = .ok (.iload 6, 2) := by decide +kernel
theorem dX6_game_188 : decode cX6_game 188 = .ok (.iload 8, 2) := by decide +kernel
theorem dX6_game_190 : decode cX6_game 190 = .ok (.invokevirtual 476, 3) := by decide +kernel
theorem dX6_game_193 : decode cX6_game 193 = .ok (.if_icmp .le 6, 3) := by decide +kernel
theorem dX6_game_196 : decode cX6_game 196 = .ok (.goto 27, 3) := by decide +kernel
theorem dX6_game_199 : decode cX6_game 199 = .ok (.iinc 4 1, 3) := by decide +kernel
theorem dX6_game_202 : decode cX6_game 202 = .ok (.iload 5, 2) := by decide +kernel
theorem dX6_game_204 : decode cX6_game 204 = .ok (.iconst (-1), 1) := by decide +kernel
theorem dX6_game_205 : decode cX6_game 205 = .ok (.if_icmp .ne 14, 3) := by decide +kernel
theorem dX6_game_208 : decode cX6_game 208 = .ok (.bipush 10, 2) := by decide +kernel
theorem dX6_game_210 : decode cX6_game 210 = .ok (.iload 7, 2) := by decide +kernel
theorem dX6_game_212 : decode cX6_game 212 = .ok (.imul, 1) := by decide +kernel
theorem dX6_game_213 : decode cX6_game 213 = .ok (.iload 8, 2) := by decide +kernel
theorem dX6_game_215 : decode cX6_game 215 = .ok (.iadd, 1) := by decide +kernel
theorem dX6_game_216 : decode cX6_game 216 = .ok (.goto 5, 3) := by decide +kernel
theorem dX6_game_219 : decode cX6_game 219 = .ok (.iload 5, 2) := by decide +kernel
theorem dX6_game_221 : decode cX6_game 221 = .ok (.istore 5, 2) := by decide +kernel
theorem dX6_game_223 : decode cX6_game 223 = .ok (.iinc 6 1, 3) := by decide +kernel
theorem dX6_game_226 : decode cX6_game 226 = .ok (.goto (-98), 3) := by decide +kernel
theorem dX6_game_229 : decode cX6_game 229 = .ok (.iload_n 3, 1) := by decide +kernel
theorem dX6_game_230 : decode cX6_game 230 = .ok (.ifCond .ne 8, 3) := by decide +kernel
theorem dX6_game_233 : decode cX6_game 233 = .ok (.iload 4, 2) := by decide +kernel
theorem dX6_game_235 : decode cX6_game 235 = .ok (.goto 5, 3) := by decide +kernel
theorem dX6_game_238 : decode cX6_game 238 = .ok (.iload 5, 2) := by decide +kernel
theorem dX6_game_240 : decode cX6_game 240 = .ok (.ireturn, 1) := by decide +kernel
theorem dX6_drawOf_0 : decode cX6_drawOf 0 = .ok (.aload_n 0, 1) := by decide +kernel
theorem dX6_drawOf_1 : decode cX6_drawOf 1 = .ok (.aload_n 0, 1) := by decide +kernel
theorem dX6_drawOf_2 : decode cX6_drawOf 2 = .ok (.getfield 479, 3) := by decide +kernel
theorem dX6_drawOf_5 : decode cX6_drawOf 5 = .ok (.ldc_w 482, 3) := by decide +kernel
theorem dX6_drawOf_8 : decode cX6_drawOf 8 = .ok (.imul, 1) := by decide +kernel
theorem dX6_drawOf_9 : decode cX6_drawOf 9 = .ok (.sipush 12345, 3) := by decide +kernel
theorem dX6_drawOf_12 : decode cX6_drawOf 12 = .ok (.iadd, 1) := by decide +kernel
theorem dX6_drawOf_13 : decode cX6_drawOf 13 = .ok (.putfield 479, 3) := by decide +kernel
theorem dX6_drawOf_16 : decode cX6_drawOf 16 = .ok (.aload_n 0, 1) := by decide +kernel
theorem dX6_drawOf_17 : decode cX6_drawOf 17 = .ok (.getfield 479, 3) := by decide +kernel
theorem dX6_drawOf_20 : decode cX6_drawOf 20 = .ok (.bipush 16, 2) := by decide +kernel
theorem dX6_drawOf_22 : decode cX6_drawOf 22 = .ok (.ishr, 1) := by decide +kernel
theorem dX6_drawOf_23 : decode cX6_drawOf 23 = .ok (.sipush 32767, 3) := by decide +kernel
theorem dX6_drawOf_26 : decode cX6_drawOf 26 = .ok (.iand, 1) := by decide +kernel
theorem dX6_drawOf_27 : decode cX6_drawOf 27 = .ok (.iload_n 1, 1) := by decide +kernel
theorem dX6_drawOf_28 : decode cX6_drawOf 28 = .ok (.irem, 1) := by decide +kernel
theorem dX6_drawOf_29 : decode cX6_drawOf 29 = .ok (.ireturn, 1) := by decide +kernel
theorem dX6_something_0 : decode cX6_something 0 = .ok (.aload_n 0, 1) := by decide +kernel
theorem dX6_something_1 : decode cX6_something 1 = .ok (.bipush 6, 2) := by decide +kernel
theorem dX6_something_3 : decode cX6_something 3 = .ok (.invokevirtual 483, 3) := by decide +kernel
theorem dX6_something_6 : decode cX6_something 6 = .ok (.istore_n 1, 1) := by decide +kernel
theorem dX6_something_7 : decode cX6_something 7 = .ok (.iload_n 1, 1) := by decide +kernel
theorem dX6_something_8 : decode cX6_something 8 = .ok (.ifCond .ne 35, 3) := by decide +kernel
theorem dX6_something_11 : decode cX6_something 11 = .ok (.aload_n 0, 1) := by decide +kernel
theorem dX6_something_12 : decode cX6_something 12 = .ok (.getfield 42, 3) := by decide +kernel
theorem dX6_something_15 : decode cX6_something 15 = .ok (.iconst 0, 1) := by decide +kernel
theorem dX6_something_16 : decode cX6_something 16 = .ok (.iaload, 1) := by decide +kernel
theorem dX6_something_17 : decode cX6_something 17 = .ok (.ifCond .le 26, 3) := by decide +kernel
theorem dX6_something_20 : decode cX6_something 20 = .ok (.aload_n 0, 1) := by decide +kernel
theorem dX6_something_21 : decode cX6_something 21 = .ok (.aload_n 0, 1) := by decide +kernel
theorem dX6_something_22 : decode cX6_something 22 = .ok (.getfield 42, 3) := by decide +kernel
theorem dX6_something_25 : decode cX6_something 25 = .ok (.iconst 0, 1) := by decide +kernel
theorem dX6_something_26 : decode cX6_something 26 = .ok (.iaload, 1) := by decide +kernel
theorem dX6_something_27 : decode cX6_something 27 = .ok (.invokevirtual 483, 3) := by decide +kernel
theorem dX6_something_30 : decode cX6_something 30 = .ok (.istore_n 2, 1) := by decide +kernel
theorem dX6_something_31 : decode cX6_something 31 = .ok (.aload_n 0, 1) := by decide +kernel
theorem dX6_something_32 : decode cX6_something 32 = .ok (.getfield 82, 3) := by decide +kernel
theorem dX6_something_35 : decode cX6_something 35 = .ok (.iload_n 2, 1) := by decide +kernel
theorem dX6_something_36 : decode cX6_something 36 = .ok (.aload_n 0, 1) := by decide +kernel
theorem dX6_something_37 : decode cX6_something 37 = .ok (.bipush 12, 2) := by decide +kernel
theorem dX6_something_39 : decode cX6_something 39 = .ok (.invokevirtual 483, 3) := by decide +kernel
theorem dX6_something_42 : decode cX6_something 42 = .ok (.iastore, 1) := by decide +kernel
theorem dX6_something_43 : decode cX6_something 43 = .ok (.iload_n 1, 1) := by decide +kernel
theorem dX6_something_44 : decode cX6_something 44 = .ok (.iconst 1, 1) := by decide +kernel
theorem dX6_something_45 : decode cX6_something 45 = .ok (.if_icmp .ne 35, 3) := by decide +kernel
theorem dX6_something_48 : decode cX6_something 48 = .ok (.aload_n 0, 1) := by decide +kernel
theorem dX6_something_49 : decode cX6_something 49 = .ok (.getfield 42, 3) := by decide +kernel
theorem dX6_something_52 : decode cX6_something 52 = .ok (.iconst 1, 1) := by decide +kernel
theorem dX6_something_53 : decode cX6_something 53 = .ok (.iaload, 1) := by decide +kernel
theorem dX6_something_54 : decode cX6_something 54 = .ok (.ifCond .le 26, 3) := by decide +kernel
theorem dX6_something_57 : decode cX6_something 57 = .ok (.aload_n 0, 1) := by decide +kernel
theorem dX6_something_58 : decode cX6_something 58 = .ok (.aload_n 0, 1) := by decide +kernel
theorem dX6_something_59 : decode cX6_something 59 = .ok (.getfield 42, 3) := by decide +kernel
theorem dX6_something_62 : decode cX6_something 62 = .ok (.iconst 1, 1) := by decide +kernel
theorem dX6_something_63 : decode cX6_something 63 = .ok (.iaload, 1) := by decide +kernel
theorem dX6_something_64 : decode cX6_something 64 = .ok (.invokevirtual 483, 3) := by decide +kernel
theorem dX6_something_67 : decode cX6_something 67 = .ok (.istore_n 2, 1) := by decide +kernel
theorem dX6_something_68 : decode cX6_something 68 = .ok (.aload_n 0, 1) := by decide +kernel
theorem dX6_something_69 : decode cX6_something 69 = .ok (.getfield 88, 3) := by decide +kernel
theorem dX6_something_72 : decode cX6_something 72 = .ok (.iload_n 2, 1) := by decide +kernel
theorem dX6_something_73 : decode cX6_something 73 = .ok (.aload_n 0, 1) := by decide +kernel
theorem dX6_something_74 : decode cX6_something 74 = .ok (.bipush 13, 2) := by decide +kernel
theorem dX6_something_76 : decode cX6_something 76 = .ok (.invokevirtual 483, 3) := by decide +kernel
theorem dX6_something_79 : decode cX6_something 79 = .ok (.iastore, 1) := by decide +kernel
theorem dX6_something_80 : decode cX6_something 80 = .ok (.iload_n 1, 1) := by decide +kernel
theorem dX6_something_81 : decode cX6_something 81 = .ok (.iconst 2, 1) := by decide +kernel
theorem dX6_something_82 : decode cX6_something 82 = .ok (.if_icmp .ne 13, 3) := by decide +kernel
theorem dX6_something_85 : decode cX6_something 85 = .ok (.aload_n 0, 1) := by decide +kernel
theorem dX6_something_86 : decode cX6_something 86 = .ok (.aload_n 0, 1) := by decide +kernel
theorem dX6_something_87 : decode cX6_something 87 = .ok (.bipush 100, 2) := by decide +kernel
theorem dX6_something_89 : decode cX6_something 89 = .ok (.invokevirtual 483, 3) := by decide +kernel
theorem dX6_something_92 : decode cX6_something 92 = .ok (.putfield 151, 3) := by decide +kernel
theorem dX6_something_95 : decode cX6_something 95 = .ok (.return_, 1) := by decide +kernel
theorem dX6_years_0 : decode cX6_years 0 = .ok (.aload_n 0, 1) := by decide +kernel
theorem dX6_years_1 : decode cX6_years 1 = .ok (.iconst 0, 1) := by decide +kernel
theorem dX6_years_2 : decode cX6_years 2 = .ok (.putfield 157, 3) := by decide +kernel
theorem dX6_years_5 : decode cX6_years 5 = .ok (.iload_n 3, 1) := by decide +kernel
theorem dX6_years_6 : decode cX6_years 6 = .ok (.i2l, 1) := by decide +kernel
theorem dX6_years_7 : decode cX6_years 7 = .ok (.lconst 0, 1) := by decide +kernel
theorem dX6_years_8 : decode cX6_years 8 = .ok (.ldc2_w 468, 3) := by decide +kernel
theorem dX6_years_11 : decode cX6_years 11 = .ok (.invokestatic 160, 3) := by decide +kernel
theorem dX6_years_14 : decode cX6_years 14 = .ok (.ifCond .ne 9, 3) := by decide +kernel
theorem dX6_years_17 : decode cX6_years 17 = .ok (.aload_n 0, 1) := by decide +kernel
theorem dX6_years_18 : decode cX6_years 18 = .ok (.iconst 1, 1) := by decide +kernel
theorem dX6_years_19 : decode cX6_years 19 = .ok (.invokevirtual 300, 3) := by decide +kernel
theorem dX6_years_22 : decode cX6_years 22 = .ok (.ireturn, 1) := by decide +kernel
theorem dX6_years_23 : decode cX6_years 23 = .ok (.iload_n 2, 1) := by decide +kernel
theorem dX6_years_24 : decode cX6_years 24 = .ok (.i2l, 1) := by decide +kernel
theorem dX6_years_25 : decode cX6_years 25 = .ok (.lconst 0, 1) := by decide +kernel
theorem dX6_years_26 : decode cX6_years 26 = .ok (.ldc2_w 419, 3) := by decide +kernel
theorem dX6_years_29 : decode cX6_years 29 = .ok (.invokestatic 160, 3) := by decide +kernel
theorem dX6_years_32 : decode cX6_years 32 = .ok (.ifCond .ne 9, 3) := by decide +kernel
theorem dX6_years_35 : decode cX6_years 35 = .ok (.aload_n 0, 1) := by decide +kernel
theorem dX6_years_36 : decode cX6_years 36 = .ok (.iconst 2, 1) := by decide +kernel
theorem dX6_years_37 : decode cX6_years 37 = .ok (.invokevirtual 300, 3) := by decide +kernel
theorem dX6_years_40 : decode cX6_years 40 = .ok (.ireturn, 1) := by decide +kernel
theorem dX6_years_41 : decode cX6_years 41 = .ok (.iconst 0, 1) := by decide +kernel
theorem dX6_years_42 : decode cX6_years 42 = .ok (.istore 4, 2) := by decide +kernel
theorem dX6_years_44 : decode cX6_years 44 = .ok (.iload 4, 2) := by decide +kernel
theorem dX6_years_46 : decode cX6_years 46 = .ok (.iconst 5, 1) := by decide +kernel
theorem dX6_years_47 : decode cX6_years 47 = .ok (.if_icmp .ge 17, 3) := by decide +kernel
theorem dX6_years_50 : decode cX6_years 50 = .ok (.aload_n 0, 1) := by decide +kernel
theorem dX6_years_51 : decode cX6_years 51 = .ok (.getfield 106, 3) := by decide +kernel
theorem dX6_years_54 : decode cX6_years 54 = .ok (.iload 4, 2) := by decide +kernel
theorem dX6_years_56 : decode cX6_years 56 = .ok (.iconst 0, 1) := by decide +kernel
theorem dX6_years_57 : decode cX6_years 57 = .ok (.iastore, 1) := by decide +kernel
theorem dX6_years_58 : decode cX6_years 58 = .ok (.iinc 4 1, 3) := by decide +kernel
theorem dX6_years_61 : decode cX6_years 61 = .ok (.goto (-17), 3) := by decide +kernel
theorem dX6_years_64 : decode cX6_years 64 = .ok (.aload_n 0, 1) := by decide +kernel
theorem dX6_years_65 : decode cX6_years 65 = .ok (.aload_n 0, 1) := by decide +kernel
theorem dX6_years_66 : decode cX6_years 66 = .ok (.getfield 103, 3) := by decide +kernel
theorem dX6_years_69 : decode cX6_years 69 = .ok (.iconst 0, 1) := by decide +kernel
theorem dX6_years_70 : decode cX6_years 70 = .ok (.invokevirtual 372, 3) := by decide +kernel
theorem dX6_years_73 : decode cX6_years 73 = .ok (.aload_n 0, 1) := by decide +kernel
theorem dX6_years_74 : decode cX6_years 74 = .ok (.iload_n 1, 1) := by decide +kernel
theorem dX6_years_75 : decode cX6_years 75 = .ok (.putfield 479, 3) := by decide +kernel
theorem dX6_years_78 : decode cX6_years 78 = .ok (.iconst 0, 1) := by decide +kernel
theorem dX6_years_79 : decode cX6_years 79 = .ok (.istore 4, 2) := by decide +kernel
theorem dX6_years_81 : decode cX6_years 81 = .ok (.iload 4, 2) := by decide +kernel
theorem dX6_years_83 : decode cX6_years 83 = .ok (.iload_n 2, 1) := by decide +kernel
theorem dX6_years_84 : decode cX6_years 84 = .ok (.if_icmp .ge 30, 3) := by decide +kernel
theorem dX6_years_87 : decode cX6_years 87 = .ok (.aload_n 0, 1) := by decide +kernel
theorem dX6_years_88 : decode cX6_years 88 = .ok (.invokevirtual 486, 3) := by decide +kernel
theorem dX6_years_91 : decode cX6_years 91 = .ok (.aload_n 0, 1) := by decide +kernel
theorem dX6_years_92 : decode cX6_years 92 = .ok (.invokevirtual 369, 3) := by decide +kernel
theorem dX6_years_95 : decode cX6_years 95 = .ok (.aload_n 0, 1) := by decide +kernel
theorem dX6_years_96 : decode cX6_years 96 = .ok (.getfield 106, 3) := by decide +kernel
theorem dX6_years_99 : decode cX6_years 99 = .ok (.aload_n 0, 1) := by decide +kernel
theorem dX6_years_100 : decode cX6_years 100 = .ok (.getfield 154, 3) := by decide +kernel
theorem dX6_years_103 : decode cX6_years 103 = .ok (.dup2, 1) := by decide +kernel
theorem dX6_years_104 : decode cX6_years 104 = .ok (.iaload, 1) := by decide +kernel
theorem dX6_years_105 : decode cX6_years 105 = .ok (.iconst 1, 1) := by decide +kernel
theorem dX6_years_106 : decode cX6_years 106 = .ok (.iadd, 1) := by decide +kernel
theorem dX6_years_107 : decode cX6_years 107 = .ok (.iastore, 1) := by decide +kernel
theorem dX6_years_108 : decode cX6_years 108 = .ok (.iinc 4 1, 3) := by decide +kernel
theorem dX6_years_111 : decode cX6_years 111 = .ok (.goto (-30), 3) := by decide +kernel
theorem dX6_years_114 : decode cX6_years 114 = .ok (.aload_n 0, 1) := by decide +kernel
theorem dX6_years_115 : decode cX6_years 115 = .ok (.aload_n 0, 1) := by decide +kernel
theorem dX6_years_116 : decode cX6_years 116 = .ok (.getfield 103, 3) := by decide +kernel
theorem dX6_years_119 : decode cX6_years 119 = .ok (.iconst 0, 1) := by decide +kernel
theorem dX6_years_120 : decode cX6_years 120 = .ok (.invokevirtual 376, 3) := by decide +kernel
theorem dX6_years_123 : decode cX6_years 123 = .ok (.iconst 0, 1) := by decide +kernel
theorem dX6_years_124 : decode cX6_years 124 = .ok (.istore 4, 2) := by decide +kernel
theorem dX6_years_126 : decode cX6_years 126 = .ok (.iconst 0, 1) := by decide +kernel
theorem dX6_years_127 : decode cX6_years 127 = .ok (.istore 5, 2) := by decide +kernel
theorem dX6_years_129 : decode cX6_years 129 = .ok (.iconst 1, 1) := by decide +kernel
theorem dX6_years_130 : decode cX6_years 130 = .ok (.istore 6, 2) := by decide +kernel
theorem dX6_years_132 : decode cX6_years 132 = .ok (.iload 6, 2) := by decide +kernel
theorem dX6_years_134 : decode cX6_years 134 = .ok (.iconst 5, 1) := by decide +kernel
theorem dX6_years_135 : decode cX6_years 135 = .ok (.if_icmp .ge 30, 3) := by decide +kernel
theorem dX6_years_138 : decode cX6_years 138 = .ok (.aload_n 0, 1) := by decide +kernel
theorem dX6_years_139 : decode cX6_years 139 = .ok (.getfield 106, 3) := by decide +kernel
theorem dX6_years_142 : decode cX6_years 142 = .ok (.iload 6, 2) := by decide +kernel
theorem dX6_years_144 : decode cX6_years 144 = .ok (.iaload, 1) := by decide +kernel
theorem dX6_years_145 : decode cX6_years 145 = .ok (.aload_n 0, 1) := by decide +kernel
theorem dX6_years_146 : decode cX6_years 146 = .ok (.getfield 106, 3) := by decide +kernel
theorem dX6_years_149 : decode cX6_years 149 = .ok (.iload 4, 2) := by decide +kernel
theorem dX6_years_151 : decode cX6_years 151 = .ok (.iaload, 1) := by decide +kernel
theorem dX6_years_152 : decode cX6_years 152 = .ok (.if_icmp .le 7, 3) := by decide +kernel
theorem dX6_years_155 : decode cX6_years 155 = .ok (.iload 6, 2) := by decide +kernel
theorem dX6_years_157 : decode cX6_years 157 = .ok (.istore 4, 2) := by decide +kernel
theorem dX6_years_159 : decode cX6_years 159 = .ok (.iinc 6 1, 3) := by decide +kernel
theorem dX6_years_162 : decode cX6_years 162 = .ok (.goto (-30), 3) := by decide +kernel
theorem dX6_years_165 : decode cX6_years 165 = .ok (.iconst 0, 1) := by decide +kernel
theorem dX6_years_166 : decode cX6_years 166 = .ok (.istore 6, 2) := by decide +kernel
theorem dX6_years_168 : decode cX6_years 168 = .ok (.iload 6, 2) := by decide +kernel
theorem dX6_years_170 : decode cX6_years 170 = .ok (.aload_n 0, 1) := by decide +kernel
theorem dX6_years_171 : decode cX6_years 171 = .ok (.getfield 42, 3) := by decide +kernel
theorem dX6_years_174 : decode cX6_years 174 = .ok (.iconst 1, 1) := by decide +kernel
theorem dX6_years_175 : decode cX6_years 175 = .ok (.iaload, 1) := by decide +kernel
theorem dX6_years_176 : decode cX6_years 176 = .ok (.if_icmp .ge 26, 3) := by decide +kernel
theorem dX6_years_179 : decode cX6_years 179 = .ok (.iload 5, 2) := by decide +kernel
theorem dX6_years_181 : decode cX6_years 181 = .ok (.aload_n 0, 1) := by decide +kernel
theorem dX6_years_182 : decode cX6_years 182 = .ok (.getfield 106, 3) := by decide +kernel
theorem dX6_years_185 : decode cX6_years 185 = .ok (.aload_n 0, 1) := by decide +kernel
theorem dX6_years_186 : decode cX6_years 186 = .ok (.getfield 61, 3) := by decide +kernel
theorem dX6_years_189 : decode cX6_years 189 = .ok (.iload 6, 2) := by decide +kernel
theorem dX6_years_191 : decode cX6_years 191 = .ok (.iaload, 1) := by decide +kernel
theorem dX6_years_192 : decode cX6_years 192 = .ok (.iaload, 1) := by decide +kernel
theorem dX6_years_193 : decode cX6_years 193 = .ok (.iadd, 1) := by decide +kernel
theorem dX6_years_194 : decode cX6_years 194 = .ok (.istore 5, 2) := by decide +kernel
theorem dX6_years_196 : decode cX6_years 196 = .ok (.iinc 6 1, 3) := by decide +kernel
theorem dX6_years_199 : decode cX6_years 199 = .ok (.goto (-31), 3) := by decide +kernel
theorem dX6_years_202 : decode cX6_years 202 = .ok (.iload_n 3, 1) := by decide +kernel
theorem dX6_years_203 : decode cX6_years 203 = .ok (.ifCond .ne 13, 3) := by decide +kernel
theorem dX6_years_206 : decode cX6_years 206 = .ok (.aload_n 0, 1) := by decide +kernel
theorem dX6_years_207 : decode cX6_years 207 = .ok (.getfield 106, 3) := by decide +kernel
theorem dX6_years_210 : decode cX6_years 210 = .ok (.iload 4, 2) := by decide +kernel
theorem dX6_years_212 : decode cX6_years 212 = .ok (.iaload, 1) := by decide +kernel
theorem dX6_years_213 : decode cX6_years 213 = .ok (.goto 23, 3) := by decide +kernel
theorem dX6_years_216 : decode cX6_years 216 = .ok (.iload_n 3, 1) := by decide +kernel
theorem dX6_years_217 : decode cX6_years 217 = .ok (.iconst 1, 1) := by decide +kernel
theorem dX6_years_218 : decode cX6_years 218 = .ok (.if_icmp .ne 16, 3) := by decide +kernel
theorem dX6_years_221 : decode cX6_years 221 = .ok (.iload_n 2, 1) := by decide +kernel
theorem dX6_years_222 : decode cX6_years 222 = .ok (.ifCond .ne 7, 3) := by decide +kernel
theorem dX6_years_225 : decode cX6_years 225 = .ok (.iconst (-1), 1) := by decide +kernel
theorem dX6_years_226 : decode cX6_years 226 = .ok (.goto 10, 3) := by decide +kernel
theorem dX6_years_229 : decode cX6_years 229 = .ok (.iload 4, 2) := by decide +kernel
theorem dX6_years_231 : decode cX6_years 231 = .ok (.goto 5, 3) := by decide +kernel
theorem dX6_years_234 : decode cX6_years 234 = .ok (.iload 5, 2) := by decide +kernel
theorem dX6_years_236 : decode cX6_years 236 = .ok (.ireturn, 1) := by decide +kernel
theorem dX6_copyTo_0 : decode cX6_copyTo 0 = .ok (.iconst 0, 1) := by decide +kernel
theorem dX6_copyTo_1 : decode cX6_copyTo 1 = .ok (.istore_n 2, 1) := by decide +kernel
theorem dX6_copyTo_2 : decode cX6_copyTo 2 = .ok (.iload_n 2, 1) := by decide +kernel
theorem dX6_copyTo_3 : decode cX6_copyTo 3 = .ok (.aload_n 0, 1) := by decide +kernel
theorem dX6_copyTo_4 : decode cX6_copyTo 4 = .ok (.arraylength, 1) := by decide +kernel
theorem dX6_copyTo_5 : decode cX6_copyTo 5 = .ok (.if_icmp .ge 15, 3) := by decide +kernel
theorem dX6_copyTo_8 : decode cX6_copyTo 8 = .ok (.aload_n 0, 1) := by decide +kernel
theorem dX6_copyTo_9 : decode cX6_copyTo 9 = .ok (.iload_n 2, 1) := by decide +kernel
theorem dX6_copyTo_10 : decode cX6_copyTo 10 = .ok (.aload_n 1, 1) := by decide +kernel
theorem dX6_copyTo_11 : decode cX6_copyTo 11 = .ok (.iload_n 2, 1) := by decide +kernel
theorem dX6_copyTo_12 : decode cX6_copyTo 12 = .ok (.iaload, 1) := by decide +kernel
theorem dX6_copyTo_13 : decode cX6_copyTo 13 = .ok (.iastore, 1) := by decide +kernel
theorem dX6_copyTo_14 : decode cX6_copyTo 14 = .ok (.iinc 2 1, 3) := by decide +kernel
theorem dX6_copyTo_17 : decode cX6_copyTo 17 = .ok (.goto (-15), 3) := by decide +kernel
theorem dX6_copyTo_20 : decode cX6_copyTo 20 = .ok (.return_, 1) := by decide +kernel
theorem dX6_image_0 : decode cX6_image 0 = .ok (.aload_n 0, 1) := by decide +kernel
theorem dX6_image_1 : decode cX6_image 1 = .ok (.iconst 0, 1) := by decide +kernel
theorem dX6_image_2 : decode cX6_image 2 = .ok (.putfield 157, 3) := by decide +kernel
theorem dX6_image_5 : decode cX6_image 5 = .ok (.aload_n 0, 1) := by decide +kernel
theorem dX6_image_6 : decode cX6_image 6 = .ok (.iconst 1, 1) := by decide +kernel
theorem dX6_image_7 : decode cX6_image 7 = .ok (.putfield 322, 3) := by decide +kernel
theorem dX6_image_10 : decode cX6_image 10 = .ok (.aload_n 0, 1) := by decide +kernel
theorem dX6_image_11 : decode cX6_image 11 = .ok (.aload_n 0, 1) := by decide +kernel
theorem dX6_image_12 : decode cX6_image 12 = .ok (.getfield 316, 3) := by decide +kernel
theorem dX6_image_15 : decode cX6_image 15 = .ok (.putfield 489, 3) := by decide +kernel
theorem dX6_image_18 : decode cX6_image 18 = .ok (.aload_n 0, 1) := by decide +kernel
theorem dX6_image_19 : decode cX6_image 19 = .ok (.aload_n 0, 1) := by decide +kernel
theorem dX6_image_20 : decode cX6_image 20 = .ok (.getfield 319, 3) := by decide +kernel
theorem dX6_image_23 : decode cX6_image 23 = .ok (.putfield 492, 3) := by decide +kernel
theorem dX6_image_26 : decode cX6_image 26 = .ok (.aload_n 0, 1) := by decide +kernel
theorem dX6_image_27 : decode cX6_image 27 = .ok (.aload_n 0, 1) := by decide +kernel
theorem dX6_image_28 : decode cX6_image 28 = .ok (.getfield 136, 3) := by decide +kernel
theorem dX6_image_31 : decode cX6_image 31 = .ok (.iconst 0, 1) := by decide +kernel
theorem dX6_image_32 : decode cX6_image 32 = .ok (.invokevirtual 372, 3) := by decide +kernel
theorem dX6_image_35 : decode cX6_image 35 = .ok (.aload_n 0, 1) := by decide +kernel
theorem dX6_image_36 : decode cX6_image 36 = .ok (.getfield 139, 3) := by decide +kernel
theorem dX6_image_39 : decode cX6_image 39 = .ok (.aload_n 0, 1) := by decide +kernel
theorem dX6_image_40 : decode cX6_image 40 = .ok (.getfield 91, 3) := by decide +kernel
theorem dX6_image_43 : decode cX6_image 43 = .ok (.invokestatic 442, 3) := by decide +kernel
theorem dX6_image_46 : decode cX6_image 46 = .ok (.aload_n 0, 1) := by decide +kernel
theorem dX6_image_47 : decode cX6_image 47 = .ok (.getfield 142, 3) := by decide +kernel
theorem dX6_image_50 : decode cX6_image 50 = .ok (.aload_n 0, 1) := by decide +kernel
theorem dX6_image_51 : decode cX6_image 51 = .ok (.getfield 118, 3) := by decide +kernel
theorem dX6_image_54 : decode cX6_image 54 = .ok (.invokestatic 442, 3) := by decide +kernel
theorem dX6_image_57 : decode cX6_image 57 = .ok (.aload_n 0, 1) := by decide +kernel
theorem dX6_image_58 : decode cX6_image 58 = .ok (.getfield 145, 3) := by decide +kernel
theorem dX6_image_61 : decode cX6_image 61 = .ok (.aload_n 0, 1) := by decide +kernel
theorem dX6_image_62 : decode cX6_image 62 = .ok (.getfield 121, 3) := by decide +kernel
theorem dX6_image_65 : decode cX6_image 65 = .ok (.invokestatic 442, 3) := by decide +kernel
theorem dX6_image_68 : decode cX6_image 68 = .ok (.aload_n 0, 1) := by decide +kernel
theorem dX6_image_69 : decode cX6_image 69 = .ok (.getfield 148, 3) := by decide +kernel
theorem dX6_image_72 : decode cX6_image 72 = .ok (.aload_n 0, 1) := by decide +kernel
theorem dX6_image_73 : decode cX6_image 73 = .ok (.getfield 70, 3) := by decide +kernel
theorem dX6_image_76 : decode cX6_image 76 = .ok (.invokestatic 442, 3) := by decide +kernel
theorem dX6_image_79 : decode cX6_image 79 = .ok (.return_, 1) := by decide +kernel
theorem dX6_restore_0 : decode cX6_restore 0 = .ok (.aload_n 0, 1) := by decide +kernel
theorem dX6_restore_1 : decode cX6_restore 1 = .ok (.iconst 0, 1) := by decide +kernel
theorem dX6_restore_2 : decode cX6_restore 2 = .ok (.putfield 157, 3) := by decide +kernel
theorem dX6_restore_5 : decode cX6_restore 5 = .ok (.aload_n 0, 1) := by decide +kernel
theorem dX6_restore_6 : decode cX6_restore 6 = .ok (.getfield 322, 3) := by decide +kernel
theorem dX6_restore_9 : decode cX6_restore 9 = .ok (.ifCond .ne 5, 3) := by decide +kernel
theorem dX6_restore_12 : decode cX6_restore 12 = .ok (.iconst 0, 1) := by decide +kernel
theorem dX6_restore_13 : decode cX6_restore 13 = .ok (.ireturn, 1) := by decide +kernel
theorem dX6_restore_14 : decode cX6_restore 14 = .ok (.aload_n 0, 1) := by decide +kernel
theorem dX6_restore_15 : decode cX6_restore 15 = .ok (.aload_n 0, 1) := by decide +kernel
theorem dX6_restore_16 : decode cX6_restore 16 = .ok (.getfield 489, 3) := by decide +kernel
theorem dX6_restore_19 : decode cX6_restore 19 = .ok (.putfield 316, 3) := by decide +kernel
theorem dX6_restore_22 : decode cX6_restore 22 = .ok (.aload_n 0, 1) := by decide +kernel
theorem dX6_restore_23 : decode cX6_restore 23 = .ok (.aload_n 0, 1) := by decide +kernel
theorem dX6_restore_24 : decode cX6_restore 24 = .ok (.getfield 492, 3) := by decide +kernel
theorem dX6_restore_27 : decode cX6_restore 27 = .ok (.putfield 319, 3) := by decide +kernel
theorem dX6_restore_30 : decode cX6_restore 30 = .ok (.aload_n 0, 1) := by decide +kernel
theorem dX6_restore_31 : decode cX6_restore 31 = .ok (.aload_n 0, 1) := by decide +kernel
theorem dX6_restore_32 : decode cX6_restore 32 = .ok (.getfield 136, 3) := by decide +kernel
theorem dX6_restore_35 : decode cX6_restore 35 = .ok (.iconst 0, 1) := by decide +kernel
theorem dX6_restore_36 : decode cX6_restore 36 = .ok (.invokevirtual 376, 3) := by decide +kernel
theorem dX6_restore_39 : decode cX6_restore 39 = .ok (.aload_n 0, 1) := by decide +kernel
theorem dX6_restore_40 : decode cX6_restore 40 = .ok (.getfield 91, 3) := by decide +kernel
theorem dX6_restore_43 : decode cX6_restore 43 = .ok (.aload_n 0, 1) := by decide +kernel
theorem dX6_restore_44 : decode cX6_restore 44 = .ok (.getfield 139, 3) := by decide +kernel
theorem dX6_restore_47 : decode cX6_restore 47 = .ok (.invokestatic 442, 3) := by decide +kernel
theorem dX6_restore_50 : decode cX6_restore 50 = .ok (.aload_n 0, 1) := by decide +kernel
theorem dX6_restore_51 : decode cX6_restore 51 = .ok (.getfield 118, 3) := by decide +kernel
theorem dX6_restore_54 : decode cX6_restore 54 = .ok (.aload_n 0, 1) := by decide +kernel
theorem dX6_restore_55 : decode cX6_restore 55 = .ok (.getfield 142, 3) := by decide +kernel
theorem dX6_restore_58 : decode cX6_restore 58 = .ok (.invokestatic 442, 3) := by decide +kernel
theorem dX6_restore_61 : decode cX6_restore 61 = .ok (.aload_n 0, 1) := by decide +kernel
theorem dX6_restore_62 : decode cX6_restore 62 = .ok (.getfield 121, 3) := by decide +kernel
theorem dX6_restore_65 : decode cX6_restore 65 = .ok (.aload_n 0, 1) := by decide +kernel
theorem dX6_restore_66 : decode cX6_restore 66 = .ok (.getfield 145, 3) := by decide +kernel
theorem dX6_restore_69 : decode cX6_restore 69 = .ok (.invokestatic 442, 3) := by decide +kernel
theorem dX6_restore_72 : decode cX6_restore 72 = .ok (.aload_n 0, 1) := by decide +kernel
theorem dX6_restore_73 : decode cX6_restore 73 = .ok (.getfield 70, 3) := by decide +kernel
theorem dX6_restore_76 : decode cX6_restore 76 = .ok (.aload_n 0, 1) := by decide +kernel
theorem dX6_restore_77 : decode cX6_restore 77 = .ok (.getfield 148, 3) := by decide +kernel
theorem dX6_restore_80 : decode cX6_restore 80 = .ok (.invokestatic 442, 3) := by decide +kernel
theorem dX6_restore_83 : decode cX6_restore 83 = .ok (.iconst 1, 1) := by decide +kernel
theorem dX6_restore_84 : decode cX6_restore 84 = .ok (.ireturn, 1) := by decide +kernel
