theorem dX9_init_0 : decode cX9_init 0 = .ok (.aload_n 0, 1) := by decide +kernel
theorem dX9_init_1 : decode cX9_init 1 = .ok (.invokespecial 1, 3) := by decide +kernel
theorem dX9_init_4 : decode cX9_init 4 = .ok (.aload_n 0, 1) := by decide +kernel
theorem dX9_init_5 : decode cX9_init 5 = .ok (.sipush 5000, 3) := by decide +kernel
theorem dX9_init_8 : decode cX9_init 8 = .ok (.putfield 7, 3) := by decide +kernel
theorem dX9_init_11 : decode cX9_init 11 = .ok (.aload_n 0, 1) := by decide +kernel
theorem dX9_init_12 : decode cX9_init 12 = .ok (.bipush 8, 2) := by decide +kernel
theorem dX9_init_14 : decode cX9_init 14 = .ok (.newarray .int, 2) := by decide +kernel
theorem dX9_init_16 : decode cX9_init 16 = .ok (.dup, 1) := by decide +kernel
theorem dX9_init_17 : decode cX9_init 17 = .ok (.iconst 0, 1) := by decide +kernel
theorem dX9_init_18 : decode cX9_init 18 = .ok (.iconst 2, 1) := by decide +kernel
theorem dX9_init_19 : decode cX9_init 19 = .ok (.iastore, 1) := by decide +kernel
theorem dX9_init_20 : decode cX9_init 20 = .ok (.dup, 1) := by decide +kernel
theorem dX9_init_21 : decode cX9_init 21 = .ok (.iconst 1, 1) := by decide +kernel
theorem dX9_init_22 : decode cX9_init 22 = .ok (.iconst 2, 1) := by decide +kernel
theorem dX9_init_23 : decode cX9_init 23 = .ok (.iastore, 1) := by decide +kernel
theorem dX9_init_24 : decode cX9_init 24 = .ok (.dup, 1) := by decide +kernel
theorem dX9_init_25 : decode cX9_init 25 = .ok (.iconst 2, 1) := by decide +kernel
theorem dX9_init_26 : decode cX9_init 26 = .ok (.iconst 2, 1) := by decide +kernel
theorem dX9_init_27 : decode cX9_init 27 = .ok (.iastore, 1) := by decide +kernel
theorem dX9_init_28 : decode cX9_init 28 = .ok (.dup, 1) := by decide +kernel
theorem dX9_init_29 : decode cX9_init 29 = .ok (.iconst 3, 1) := by decide +kernel
theorem dX9_init_30 : decode cX9_init 30 = .ok (.iconst 2, 1) := by decide +kernel
theorem dX9_init_31 : decode cX9_init 31 = .ok (.iastore, 1) := by decide +kernel
theorem dX9_init_32 : decode cX9_init 32 = .ok (.dup, 1) := by decide +kernel
theorem dX9_init_33 : decode cX9_init 33 = .ok (.iconst 4, 1) := by decide +kernel
theorem dX9_init_34 : decode cX9_init 34 = .ok (.iconst 2, 1) := by decide +kernel
theorem dX9_init_35 : decode cX9_init 35 = .ok (.iastore, 1) := by decide +kernel
theorem dX9_init_36 : decode cX9_init 36 = .ok (.dup, 1) := by decide +kernel
theorem dX9_init_37 : decode cX9_init 37 = .ok (.iconst 5, 1) := by decide +kernel
theorem dX9_init_38 : decode cX9_init 38 = .ok (.iconst 2, 1) := by decide +kernel
theorem dX9_init_39 : decode cX9_init 39 = .ok (.iastore, 1) := by decide +kernel
theorem dX9_init_40 : decode cX9_init 40 = .ok (.dup, 1) := by decide +kernel
theorem dX9_init_41 : decode cX9_init 41 = .ok (.bipush 6, 2) := by decide +kernel
theorem dX9_init_43 : decode cX9_init 43 = .ok (.iconst 2, 1) := by decide +kernel
theorem dX9_init_44 : decode cX9_init 44 = .ok (.iastore, 1) := by decide +kernel
theorem dX9_init_45 : decode cX9_init 45 = .ok (.dup, 1) := by decide +kernel
theorem dX9_init_46 : decode cX9_init 46 = .ok (.bipush 7, 2) := by decide +kernel
theorem dX9_init_48 : decode cX9_init 48 = .ok (.iconst 2, 1) := by decide +kernel
theorem dX9_init_49 : decode cX9_init 49 = .ok (.iastore, 1) := by decide +kernel
theorem dX9_init_50 : decode cX9_init 50 = .ok (.putfield 13, 3) := by decide +kernel
theorem dX9_init_53 : decode cX9_init 53 = .ok (.aload_n 0, 1) := by decide +kernel
theorem dX9_init_54 : decode cX9_init 54 = .ok (.bipush 32, 2) := by decide +kernel
theorem dX9_init_56 : decode cX9_init 56 = .ok (.newarray .int, 2) := by decide +kernel
theorem dX9_init_58 : decode cX9_init 58 = .ok (.putfield 17, 3) := by decide +kernel
theorem dX9_init_61 : decode cX9_init 61 = .ok (.aload_n 0, 1) := by decide +kernel
theorem dX9_init_62 : decode cX9_init 62 = .ok (.bipush 16, 2) := by decide +kernel
theorem dX9_init_64 : decode cX9_init 64 = .ok (.newarray .int, 2) := by decide +kernel
theorem dX9_init_66 : decode cX9_init 66 = .ok (.putfield 20, 3) := by decide +kernel
theorem dX9_init_69 : decode cX9_init 69 = .ok (.aload_n 0, 1) := by decide +kernel
theorem dX9_init_70 : decode cX9_init 70 = .ok (.bipush 16, 2) := by decide +kernel
theorem dX9_init_72 : decode cX9_init 72 = .ok (.newarray .int, 2) := by decide +kernel
theorem dX9_init_74 : decode cX9_init 74 = .ok (.putfield 23, 3) := by decide +kernel
theorem dX9_init_77 : decode cX9_init 77 = .ok (.aload_n 0, 1) := by decide +kernel
theorem dX9_init_78 : decode cX9_init 78 = .ok (.bipush 16, 2) := by decide +kernel
theorem dX9_init_80 : decode cX9_init 80 = .ok (.newarray .int, 2) := by decide +kernel
theorem dX9_init_82 : decode cX9_init 82 = .ok (.putfield 26, 3) := by decide +kernel
theorem dX9_init_85 : decode cX9_init 85 = .ok (.aload_n 0, 1) := by decide +kernel
theorem dX9_init_86 : decode cX9_init 86 = .ok (.bipush 16, 2) := by decide +kernel
theorem dX9_init_88 : decode cX9_init 88 = .ok (.newarray .int, 2) := by decide +kernel
theorem dX9_init_90 : decode cX9_init 90 = .ok (.putfield 29, 3) := by decide +kernel
theorem dX9_init_93 : decode cX9_init 93 = .ok (.aload_n 0, 1) := by decide +kernel
theorem dX9_init_94 : decode cX9_init 94 = .ok (.bipush 16, 2) := by decide +kernel
theorem dX9_init_96 : decode cX9_init 96 = .ok (.newarray .boolean, 2) := by decide +kernel
theorem dX9_init_98 : decode cX9_init 98 = .ok (.putfield 32, 3) := by decide +kernel
theorem dX9_init_101 : decode cX9_init 101 = .ok (.aload_n 0, 1) := by decide +kernel
theorem dX9_init_102 : decode cX9_init 102 = .ok (.bipush 16, 2) := by decide +kernel
theorem dX9_init_104 : decode cX9_init 104 = .ok (.newarray .boolean, 2) := by decide +kernel
theorem dX9_init_106 : decode cX9_init 106 = .ok (.putfield 36, 3) := by decide +kernel
theorem dX9_init_109 : decode cX9_init 109 = .ok (.aload_n 0, 1) := by decide +kernel
theorem dX9_init_110 : decode cX9_init 110 = .ok (.bipush 16, 2) := by decide +kernel
theorem dX9_init_112 : decode cX9_init 112 = .ok (.newarray .boolean, 2) := by decide +kernel
theorem dX9_init_114 : decode cX9_init 114 = .ok (.putfield 39, 3) := by decide +kernel
theorem dX9_init_117 : decode cX9_init 117 = .ok (.aload_n 0, 1) := by decide +kernel
theorem dX9_init_118 : decode cX9_init 118 = .ok (.bipush 16, 2) := by decide +kernel
theorem dX9_init_120 : decode cX9_init 120 = .ok (.newarray .int, 2) := by decide +kernel
theorem dX9_init_122 : decode cX9_init 122 = .ok (.putfield 42, 3) := by decide +kernel
theorem dX9_init_125 : decode cX9_init 125 = .ok (.aload_n 0, 1) := by decide +kernel
theorem dX9_init_126 : decode cX9_init 126 = .ok (.bipush 16, 2) := by decide +kernel
theorem dX9_init_128 : decode cX9_init 128 = .ok (.newarray .int, 2) := by decide +kernel
theorem dX9_init_130 : decode cX9_init 130 = .ok (.putfield 45, 3) := by decide +kernel
theorem dX9_init_133 : decode cX9_init 133 = .ok (.aload_n 0, 1) := by decide +kernel
theorem dX9_init_134 : decode cX9_init 134 = .ok (.bipush 16, 2) := by decide +kernel
theorem dX9_init_136 : decode cX9_init 136 = .ok (.newarray .int, 2) := by decide +kernel
theorem dX9_init_138 : decode cX9_init 138 = .ok (.putfield 48, 3) := by decide +kernel
theorem dX9_init_141 : decode cX9_init 141 = .ok (.aload_n 0, 1) := by decide +kernel
theorem dX9_init_142 : decode cX9_init 142 = .ok (.bipush 16, 2) := by decide +kernel
theorem dX9_init_144 : decode cX9_init 144 = .ok (.newarray .int, 2) := by decide +kernel
theorem dX9_init_146 : decode cX9_init 146 = .ok (.putfield 51, 3) := by decide +kernel
theorem dX9_init_149 : decode cX9_init 149 = .ok (.aload_n 0, 1) := by decide +kernel
theorem dX9_init_150 : decode cX9_init 150 = .ok (.bipush 6, 2) := by decide +kernel
theorem dX9_init_152 : decode cX9_init 152 = .ok (.newarray .int, 2) := by decide +kernel
theorem dX9_init_154 : decode cX9_init 154 = .ok (.putfield 54, 3) := by decide +kernel
theorem dX9_init_157 : decode cX9_init 157 = .ok (.aload_n 0, 1) := by decide +kernel
theorem dX9_init_158 : decode cX9_init 158 = .ok (.bipush 6, 2) := by decide +kernel
theorem dX9_init_160 : decode cX9_init 160 = .ok (.newarray .int, 2) := by decide +kernel
theorem dX9_init_162 : decode cX9_init 162 = .ok (.putfield 57, 3) := by decide +kernel
theorem dX9_init_165 : decode cX9_init 165 = .ok (.aload_n 0, 1) := by decide +kernel
theorem dX9_init_166 : decode cX9_init 166 = .ok (.bipush 6, 2) := by decide +kernel
theorem dX9_init_168 : decode cX9_init 168 = .ok (.newarray .int, 2) := by decide +kernel
theorem dX9_init_170 : decode cX9_init 170 = .ok (.putfield 60, 3) := by decide +kernel
theorem dX9_init_173 : decode cX9_init 173 = .ok (.aload_n 0, 1) := by decide +kernel
theorem dX9_init_174 : decode cX9_init 174 = .ok (.bipush 6, 2) := by decide +kernel
theorem dX9_init_176 : decode cX9_init 176 = .ok (.newarray .int, 2) := by decide +kernel
theorem dX9_init_178 : decode cX9_init 178 = .ok (.putfield 63, 3) := by decide +kernel
theorem dX9_init_181 : decode cX9_init 181 = .ok (.aload_n 0, 1) := by decide +kernel
theorem dX9_init_182 : decode cX9_init 182 = .ok (.bipush 6, 2) := by decide +kernel
theorem dX9_init_184 : decode cX9_init 184 = .ok (.newarray .int, 2) := by decide +kernel
theorem dX9_init_186 : decode cX9_init 186 = .ok (.putfield 66, 3) := by decide +kernel
theorem dX9_init_189 : decode cX9_init 189 = .ok (.aload_n 0, 1) := by decide +kernel
theorem dX9_init_190 : decode cX9_init 190 = .ok (.bipush 6, 2) := by decide +kernel
theorem dX9_init_192 : decode cX9_init 192 = .ok (.newarray .int, 2) := by decide +kernel
theorem dX9_init_194 : decode cX9_init 194 = .ok (.putfield 69, 3) := by decide +kernel
theorem dX9_init_197 : decode cX9_init 197 = .ok (.aload_n 0, 1) := by decide +kernel
theorem dX9_init_198 : decode cX9_init 198 = .ok (.bipush 6, 2) := by decide +kernel
theorem dX9_init_200 : decode cX9_init 200 = .ok (.newarray .int, 2) := by decide +kernel
theorem dX9_init_202 : decode cX9_init 202 = .ok (.putfield 72, 3) := by decide +kernel
theorem dX9_init_205 : decode cX9_init 205 = .ok (.aload_n 0, 1) := by decide +kernel
theorem dX9_init_206 : decode cX9_init 206 = .ok (.bipush 96, 2) := by decide +kernel
theorem dX9_init_208 : decode cX9_init 208 = .ok (.newarray .boolean, 2) := by decide +kernel
theorem dX9_init_210 : decode cX9_init 210 = .ok (.putfield 75, 3) := by decide +kernel
theorem dX9_init_213 : decode cX9_init 213 = .ok (.aload_n 0, 1) := by decide +kernel
theorem dX9_init_214 : decode cX9_init 214 = .ok (.bipush 20, 2) := by decide +kernel
theorem dX9_init_216 : decode cX9_init 216 = .ok (.newarray .int, 2) := by decide +kernel
theorem dX9_init_218 : decode cX9_init 218 = .ok (.putfield 78, 3) := by decide +kernel
theorem dX9_init_221 : decode cX9_init 221 = .ok (.aload_n 0, 1) := by decide +kernel
theorem dX9_init_222 : decode cX9_init 222 = .ok (.bipush 20, 2) := by decide +kernel
theorem dX9_init_224 : decode cX9_init 224 = .ok (.newarray .int, 2) := by decide +kernel
theorem dX9_init_226 : decode cX9_init 226 = .ok (.putfield 81, 3) := by decide +kernel
theorem dX9_init_229 : decode cX9_init 229 = .ok (.aload_n 0, 1) := by decide +kernel
theorem dX9_init_230 : decode cX9_init 230 = .ok (.bipush 20, 2) := by decide +kernel
theorem dX9_init_232 : decode cX9_init 232 = .ok (.newarray .int, 2) := by decide +kernel
theorem dX9_init_234 : decode cX9_init 234 = .ok (.putfield 84, 3) := by decide +kernel
theorem dX9_init_237 : decode cX9_init 237 = .ok (.aload_n 0, 1) := by decide +kernel
theorem dX9_init_238 : decode cX9_init 238 = .ok (.bipush 20, 2) := by decide +kernel
theorem dX9_init_240 : decode cX9_init 240 = .ok (.newarray .int, 2) := by decide +kernel
theorem dX9_init_242 : decode cX9_init 242 = .ok (.putfield 87, 3) := by decide +kernel
theorem dX9_init_245 : decode cX9_init 245 = .ok (.aload_n 0, 1) := by decide +kernel
theorem dX9_init_246 : decode cX9_init 246 = .ok (.sipush 160, 3) := by decide +kernel
theorem dX9_init_249 : decode cX9_init 249 = .ok (.newarray .int, 2) := by decide +kernel
theorem dX9_init_251 : decode cX9_init 251 = .ok (.putfield 90, 3) := by decide +kernel
theorem dX9_init_254 : decode cX9_init 254 = .ok (.aload_n 0, 1) := by decide +kernel
theorem dX9_init_255 : decode cX9_init 255 = .ok (.bipush 8, 2) := by decide +kernel
theorem dX9_init_257 : decode cX9_init 257 = .ok (.newarray .int, 2) := by decide +kernel
theorem dX9_init_259 : decode cX9_init 259 = .ok (.putfield 93, 3) := by decide +kernel
theorem dX9_init_262 : decode cX9_init 262 = .ok (.aload_n 0, 1) := by decide +kernel
theorem dX9_init_263 : decode cX9_init 263 = .ok (.bipush 6, 2) := by decide +kernel
theorem dX9_init_265 : decode cX9_init 265 = .ok (.newarray .boolean, 2) := by decide +kernel
theorem dX9_init_267 : decode cX9_init 267 = .ok (.putfield 96, 3) := by decide +kernel
theorem dX9_init_270 : decode cX9_init 270 = .ok (.aload_n 0, 1) := by decide +kernel
theorem dX9_init_271 : decode cX9_init 271 = .ok (.bipush 6, 2) := by decide +kernel
theorem dX9_init_273 : decode cX9_init 273 = .ok (.newarray .int, 2) := by decide +kernel
theorem dX9_init_275 : decode cX9_init 275 = .ok (.putfield 99, 3) := by decide +kernel
theorem dX9_init_278 : decode cX9_init 278 = .ok (.aload_n 0, 1) := by decide +kernel
theorem dX9_init_279 : decode cX9_init 279 = .ok (.bipush 6, 2) := by decide +kernel
theorem dX9_init_281 : decode cX9_init 281 = .ok (.newarray .int, 2) := by decide +kernel
theorem dX9_init_283 : decode cX9_init 283 = .ok (.putfield 102, 3) := by decide +kernel
theorem dX9_init_286 : decode cX9_init 286 = .ok (.aload_n 0, 1) := by decide +kernel
theorem dX9_init_287 : decode cX9_init 287 = .ok (.bipush 6, 2) := by decide +kernel
theorem dX9_init_289 : decode cX9_init 289 = .ok (.newarray .int, 2) := by decide +kernel
theorem dX9_init_291 : decode cX9_init 291 = .ok (.putfield 105, 3) := by decide +kernel
theorem dX9_init_294 : decode cX9_init 294 = .ok (.aload_n 0, 1) := by decide +kernel
theorem dX9_init_295 : decode cX9_init 295 = .ok (.bipush 6, 2) := by decide +kernel
theorem dX9_init_297 : decode cX9_init 297 = .ok (.newarray .int, 2) := by decide +kernel
theorem dX9_init_299 : decode cX9_init 299 = .ok (.putfield 108, 3) := by decide +kernel
theorem dX9_init_302 : decode cX9_init 302 = .ok (.aload_n 0, 1) := by decide +kernel
theorem dX9_init_303 : decode cX9_init 303 = .ok (.bipush 6, 2) := by decide +kernel
theorem dX9_init_305 : decode cX9_init 305 = .ok (.newarray .int, 2) := by decide +kernel
theorem dX9_init_307 : decode cX9_init 307 = .ok (.putfield 111, 3) := by decide +kernel
theorem dX9_init_310 : decode cX9_init 310 = .ok (.aload_n 0, 1) := by decide +kernel
theorem dX9_init_311 : decode cX9_init 311 = .ok (.bipush 6, 2) := by decide +kernel
theorem dX9_init_313 : decode cX9_init 313 = .ok (.newarray .int, 2) := by decide +kernel
theorem dX9_init_315 : decode cX9_init 315 = .ok (.putfield 114, 3) := by decide +kernel
theorem dX9_init_318 : decode cX9_init 318 = .ok (.aload_n 0, 1) := by decide +kernel
theorem dX9_init_319 : decode cX9_init 319 = .ok (.bipush 60, 2) := by decide +kernel
theorem dX9_init_321 : decode cX9_init 321 = .ok (.newarray .int, 2) := by decide +kernel
theorem dX9_init_323 : decode cX9_init 323 = .ok (.putfield 117, 3) := by decide +kernel
theorem dX9_init_326 : decode cX9_init 326 = .ok (.aload_n 0, 1) := by decide +kernel
theorem dX9_init_327 : decode cX9_init 327 = .ok (.bipush 6, 2) := by decide +kernel
theorem dX9_init_329 : decode cX9_init 329 = .ok (.newarray .int, 2) := by decide +kernel
theorem dX9_init_331 : decode cX9_init 331 = .ok (.putfield 120, 3) := by decide +kernel
theorem dX9_init_334 : decode cX9_init 334 = .ok (.aload_n 0, 1) := by decide +kernel
theorem dX9_init_335 : decode cX9_init 335 = .ok (.bipush 48, 2) := by decide +kernel
theorem dX9_init_337 : decode cX9_init 337 = .ok (.newarray .int, 2) := by decide +kernel
theorem dX9_init_339 : decode cX9_init 339 = .ok (.putfield 123, 3) := by decide +kernel
theorem dX9_init_342 : decode cX9_init 342 = .ok (.aload_n 0, 1) := by decide +kernel
theorem dX9_init_343 : decode cX9_init 343 = .ok (.bipush 6, 2) := by decide +kernel
theorem dX9_init_345 : decode cX9_init 345 = .ok (.newarray .int, 2) := by decide +kernel
theorem dX9_init_347 : decode cX9_init 347 = .ok (.putfield 126, 3) := by decide +kernel
theorem dX9_init_350 : decode cX9_init 350 = .ok (.aload_n 0, 1) := by decide +kernel
theorem dX9_init_351 : decode cX9_init 351 = .ok (.bipush 6, 2) := by decide +kernel
theorem dX9_init_353 : decode cX9_init 353 = .ok (.newarray .int, 2) := by decide +kernel
theorem dX9_init_355 : decode cX9_init 355 = .ok (.putfield 129, 3) := by decide +kernel
theorem dX9_init_358 : decode cX9_init 358 = .ok (.aload_n 0, 1) := by decide +kernel
theorem dX9_init_359 : decode cX9_init 359 = .ok (.bipush 6, 2) := by decide +kernel
theorem dX9_init_361 : decode cX9_init 361 = .ok (.newarray .int, 2) := by decide +kernel
theorem dX9_init_363 : decode cX9_init 363 = .ok (.putfield 132, 3) := by decide +kernel
theorem dX9_init_366 : decode cX9_init 366 = .ok (.aload_n 0, 1) := by decide +kernel
theorem dX9_init_367 : decode cX9_init 367 = .ok (.bipush 6, 2) := by decide +kernel
theorem dX9_init_369 : decode cX9_init 369 = .ok (.newarray .int, 2) := by decide +kernel
theorem dX9_init_371 : decode cX9_init 371 = .ok (.putfield 135, 3) := by decide +kernel
theorem dX9_init_374 : decode cX9_init 374 = .ok (.aload_n 0, 1) := by decide +kernel
theorem dX9_init_375 : decode cX9_init 375 = .ok (.bipush 6, 2) := by decide +kernel
theorem dX9_init_377 : decode cX9_init 377 = .ok (.newarray .int, 2) := by decide +kernel
theorem dX9_init_379 : decode cX9_init 379 = .ok (.putfield 138, 3) := by decide +kernel
theorem dX9_init_382 : decode cX9_init 382 = .ok (.aload_n 0, 1) := by decide +kernel
theorem dX9_init_383 : decode cX9_init 383 = .ok (.bipush 6, 2) := by decide +kernel
theorem dX9_init_385 : decode cX9_init 385 = .ok (.newarray .int, 2) := by decide +kernel
theorem dX9_init_387 : decode cX9_init 387 = .ok (.putfield 141, 3) := by decide +kernel
theorem dX9_init_390 : decode cX9_init 390 = .ok (.aload_n 0, 1) := by decide +kernel
theorem dX9_init_391 : decode cX9_init 391 = .ok (.bipush 8, 2) := by decide +kernel
theorem dX9_init_393 : decode cX9_init 393 = .ok (.newarray .int, 2) := by decide +kernel
theorem dX9_init_395 : decode cX9_init 395 = .ok (.putfield 144, 3) := by decide +kernel
theorem dX9_init_398 : decode cX9_init 398 = .ok (.aload_n 0, 1) := by decide +kernel
theorem dX9_init_399 : decode cX9_init 399 = .ok (.bipush 40, 2) := by decide +kernel
theorem dX9_init_401 : decode cX9_init 401 = .ok (.newarray .int, 2) := by decide +kernel
theorem dX9_init_403 : decode cX9_init 403 = .ok (.putfield 147, 3) := by decide +kernel
theorem dX9_init_406 : decode cX9_init 406 = .ok (.aload_n 0, 1) := by decide +kernel
theorem dX9_init_407 : decode cX9_init 407 = .ok (.bipush 40, 2) := by decide +kernel
theorem dX9_init_409 : decode cX9_init 409 = .ok (.newarray .int, 2) := by decide +kernel
theorem dX9_init_411 : decode cX9_init 411 = .ok (.putfield 150, 3) := by decide +kernel
theorem dX9_init_414 : decode cX9_init 414 = .ok (.aload_n 0, 1) := by decide +kernel
theorem dX9_init_415 : decode cX9_init 415 = .ok (.bipush 40, 2) := by decide +kernel
theorem dX9_init_417 : decode cX9_init 417 = .ok (.newarray .int, 2) := by decide +kernel
theorem dX9_init_419 : decode cX9_init 419 = .ok (.putfield 153, 3) := by decide +kernel
theorem dX9_init_422 : decode cX9_init 422 = .ok (.aload_n 0, 1) := by decide +kernel
theorem dX9_init_423 : decode cX9_init 423 = .ok (.bipush 40, 2) := by decide +kernel
theorem dX9_init_425 : decode cX9_init 425 = .ok (.newarray .boolean, 2) := by decide +kernel
theorem dX9_init_427 : decode cX9_init 427 = .ok (.putfield 156, 3) := by decide +kernel
theorem dX9_init_430 : decode cX9_init 430 = .ok (.aload_n 0, 1) := by decide +kernel
theorem dX9_init_431 : decode cX9_init 431 = .ok (.sipush 128, 3) := by decide +kernel
theorem dX9_init_434 : decode cX9_init 434 = .ok (.newarray .int, 2) := by decide +kernel
theorem dX9_init_436 : decode cX9_init 436 = .ok (.putfield 159, 3) := by decide +kernel
theorem dX9_init_439 : decode cX9_init 439 = .ok (.aload_n 0, 1) := by decide +kernel
theorem dX9_init_440 : decode cX9_init 440 = .ok (.sipush 4000, 3) := by decide +kernel
theorem dX9_init_443 : decode cX9_init 443 = .ok (.newarray .int, 2) := by decide +kernel
theorem dX9_init_445 : decode cX9_init 445 = .ok (.putfield 162, 3) := by decide +kernel
theorem dX9_init_448 : decode cX9_init 448 = .ok (.aload_n 0, 1) := by decide +kernel
theorem dX9_init_449 : decode cX9_init 449 = .ok (.sipush 4000, 3) := by decide +kernel
theorem dX9_init_452 : decode cX9_init 452 = .ok (.newarray .int, 2) := by decide +kernel
theorem dX9_init_454 : decode cX9_init 454 = .ok (.putfield 165, 3) := by decide +kernel
theorem dX9_init_457 : decode cX9_init 457 = .ok (.aload_n 0, 1) := by decide +kernel
theorem dX9_init_458 : decode cX9_init 458 = .ok (.bipush 8, 2) := by decide +kernel
theorem dX9_init_460 : decode cX9_init 460 = .ok (.newarray .int, 2) := by decide +kernel
theorem dX9_init_462 : decode cX9_init 462 = .ok (.putfield 168, 3) := by decide +kernel
theorem dX9_init_465 : decode cX9_init 465 = .ok (.aload_n 0, 1) := by decide +kernel
theorem dX9_init_466 : decode cX9_init 466 = .ok (.bipush 20, 2) := by decide +kernel
theorem dX9_init_468 : decode cX9_init 468 = .ok (.newarray .int, 2) := by decide +kernel
theorem dX9_init_470 : decode cX9_init 470 = .ok (.putfield 171, 3) := by decide +kernel
theorem dX9_init_473 : decode cX9_init 473 = .ok (.iconst 0, 1) := by decide +kernel
theorem dX9_init_474 : decode cX9_init 474 = .ok (.istore_n 1, 1) := by decide +kernel
theorem dX9_init_475 : decode cX9_init 475 = .ok (.iload_n 1, 1) := by decide +kernel
theorem dX9_init_476 : decode cX9_init 476 = .ok (.sipush 128, 3) := by decide +kernel
theorem dX9_init_479 : decode cX9_init 479 = .ok (.if_icmp .ge 17, 3) := by decide +kernel
theorem dX9_init_482 : decode cX9_init 482 = .ok (.aload_n 0, 1) := by decide +kernel
theorem dX9_init_483 : decode cX9_init 483 = .ok (.getfield 159, 3) := by decide +kernel
theorem dX9_init_486 : decode cX9_init 486 = .ok (.iload_n 1, 1) := by decide +kernel
theorem dX9_init_487 : decode cX9_init 487 = .ok (.bipush 20, 2) := by decide +kernel
theorem dX9_init_489 : decode cX9_init 489 = .ok (.iastore, 1) := by decide +kernel
theorem dX9_init_490 : decode cX9_init 490 = .ok (.iinc 1 1, 3) := by decide +kernel
theorem dX9_init_493 : decode cX9_init 493 = .ok (.goto (-18), 3) := by decide +kernel
theorem dX9_init_496 : decode cX9_init 496 = .ok (.return_, 1) := by decide +kernel
theorem dX9_thrown_0 : decode cX9_thrown 0 = .ok (.aload_n 0, 1) := by decide +kernel
theorem dX9_thrown_1 : decode cX9_thrown 1 = .ok (.getfield 174, 3) := by decide +kernel
theorem dX9_thrown_4 : decode cX9_thrown 4 = .ok (.ireturn, 1) := by decide +kernel
theorem dX9_fails_0 : decode cX9_fails 0 = .ok (.aload_n 0, 1) := by decide +kernel
theorem dX9_fails_1 : decode cX9_fails 1 = .ok (.iload_n 1, 1) := by decide +kernel
theorem dX9_fails_2 : decode cX9_fails 2 = .ok (.putfield 174, 3) := by decide +kernel
theorem dX9_fails_5 : decode cX9_fails 5 = .ok (.iconst 0, 1) := by decide +kernel
theorem dX9_fails_6 : decode cX9_fails 6 = .ok (.ireturn, 1) := by decide +kernel
theorem dX9_in_0 : decode cX9_in 0 = .ok (.iload_n 0, 1) := by decide +kernel
theorem dX9_in_1 : decode cX9_in 1 = .ok (.iload_n 1, 1) := by decide +kernel
theorem dX9_in_2 : decode cX9_in 2 = .ok (.if_icmp .lt 12, 3) := by decide +kernel
theorem dX9_in_5 : decode cX9_in 5 = .ok (.iload_n 0, 1) := by decide +kernel
theorem dX9_in_6 : decode cX9_in 6 = .ok (.iload_n 2, 1) := by decide +kernel
theorem dX9_in_7 : decode cX9_in 7 = .ok (.if_icmp .gt 7, 3) := by decide +kernel
theorem dX9_in_10 : decode cX9_in 10 = .ok (.iconst 1, 1) := by decide +kernel
theorem dX9_in_11 : decode cX9_in 11 = .ok (.goto 4, 3) := by decide +kernel
theorem dX9_in_14 : decode cX9_in 14 = .ok (.iconst 0, 1) := by decide +kernel
theorem dX9_in_15 : decode cX9_in 15 = .ok (.ireturn, 1) := by decide +kernel
theorem dX9_isStation_0 : decode cX9_isStation 0 = .ok (.iload_n 0, 1) := by decide +kernel
theorem dX9_isStation_1 : decode cX9_isStation 1 = .ok (.iconst 0, 1) := by decide +kernel
theorem dX9_isStation_2 : decode cX9_isStation 2 = .ok (.bipush 7, 2) := by decide +kernel
theorem dX9_isStation_4 : decode cX9_isStation 4 = .ok (.invokestatic 177, 3) := by decide +kernel
theorem dX9_isStation_7 : decode cX9_isStation 7 = .ok (.ireturn, 1) := by decide +kernel
theorem dX9_isBlock_0 : decode cX9_isBlock 0 = .ok (.iload_n 1, 1) := by decide +kernel
theorem dX9_isBlock_1 : decode cX9_isBlock 1 = .ok (.iconst 0, 1) := by decide +kernel
theorem dX9_isBlock_2 : decode cX9_isBlock 2 = .ok (.aload_n 0, 1) := by decide +kernel
theorem dX9_isBlock_3 : decode cX9_isBlock 3 = .ok (.getfield 181, 3) := by decide +kernel
theorem dX9_isBlock_6 : decode cX9_isBlock 6 = .ok (.iconst 1, 1) := by decide +kernel
theorem dX9_isBlock_7 : decode cX9_isBlock 7 = .ok (.isub, 1) := by decide +kernel
theorem dX9_isBlock_8 : decode cX9_isBlock 8 = .ok (.invokestatic 177, 3) := by decide +kernel
theorem dX9_isBlock_11 : decode cX9_isBlock 11 = .ok (.ireturn, 1) := by decide +kernel
theorem dX9_isTrain_0 : decode cX9_isTrain 0 = .ok (.iload_n 1, 1) := by decide +kernel
theorem dX9_isTrain_1 : decode cX9_isTrain 1 = .ok (.iconst 0, 1) := by decide +kernel
theorem dX9_isTrain_2 : decode cX9_isTrain 2 = .ok (.iconst 5, 1) := by decide +kernel
theorem dX9_isTrain_3 : decode cX9_isTrain 3 = .ok (.invokestatic 177, 3) := by decide +kernel
theorem dX9_isTrain_6 : decode cX9_isTrain 6 = .ok (.ifCond .eq 16, 3) := by decide +kernel
theorem dX9_isTrain_9 : decode cX9_isTrain 9 = .ok (.aload_n 0, 1) := by decide +kernel
theorem dX9_isTrain_10 : decode cX9_isTrain 10 = .ok (.getfield 96, 3) := by decide +kernel
theorem dX9_isTrain_13 : decode cX9_isTrain 13 = .ok (.iload_n 1, 1) := by decide +kernel
theorem dX9_isTrain_14 : decode cX9_isTrain 14 = .ok (.baload, 1) := by decide +kernel
theorem dX9_isTrain_15 : decode cX9_isTrain 15 = .ok (.ifCond .eq 7, 3) := by decide +kernel
theorem dX9_isTrain_18 : decode cX9_isTrain 18 = .ok (.iconst 1, 1) := by decide +kernel
theorem dX9_isTrain_19 : decode cX9_isTrain 19 = .ok (.goto 4, 3) := by decide +kernel
theorem dX9_isTrain_22 : decode cX9_isTrain 22 = .ok (.iconst 0, 1) := by decide +kernel
theorem dX9_isTrain_23 : decode cX9_isTrain 23 = .ok (.ireturn, 1) := by decide +kernel
theorem dX9_isCar_0 : decode cX9_isCar 0 = .ok (.iload_n 1, 1) := by decide +kernel
theorem dX9_isCar_1 : decode cX9_isCar 1 = .ok (.iconst 0, 1) := by decide +kernel
theorem dX9_isCar_2 : decode cX9_isCar 2 = .ok (.aload_n 0, 1) := by decide +kernel
theorem dX9_isCar_3 : decode cX9_isCar 3 = .ok (.getfield 184, 3) := by decide +kernel
theorem dX9_isCar_6 : decode cX9_isCar 6 = .ok (.iconst 1, 1) := by decide +kernel
theorem dX9_isCar_7 : decode cX9_isCar 7 = .ok (.isub, 1) := by decide +kernel
theorem dX9_isCar_8 : decode cX9_isCar 8 = .ok (.invokestatic 177, 3) := by decide +kernel
theorem dX9_isCar_11 : decode cX9_isCar 11 = .ok (.ireturn, 1) := by decide +kernel
theorem dX9_stands_0 : decode cX9_stands 0 = .ok (.aload_n 0, 1) := by decide +kernel
theorem dX9_stands_1 : decode cX9_stands 1 = .ok (.getfield 105, 3) := by decide +kernel
theorem dX9_stands_4 : decode cX9_stands 4 = .ok (.iload_n 1, 1) := by decide +kernel
theorem dX9_stands_5 : decode cX9_stands 5 = .ok (.iaload, 1) := by decide +kernel
theorem dX9_stands_6 : decode cX9_stands 6 = .ok (.ifCond .eq 13, 3) := by decide +kernel
theorem dX9_stands_9 : decode cX9_stands 9 = .ok (.aload_n 0, 1) := by decide +kernel
theorem dX9_stands_10 : decode cX9_stands 10 = .ok (.getfield 105, 3) := by decide +kernel
theorem dX9_stands_13 : decode cX9_stands 13 = .ok (.iload_n 1, 1) := by decide +kernel
theorem dX9_stands_14 : decode cX9_stands 14 = .ok (.iaload, 1) := by decide +kernel
theorem dX9_stands_15 : decode cX9_stands 15 = .ok (.iconst 1, 1) := by decide +kernel
theorem dX9_stands_16 : decode cX9_stands 16 = .ok (.if_icmp .ne 7, 3) := by decide +kernel
theorem dX9_stands_19 : decode cX9_stands 19 = .ok (.iconst 1, 1) := by decide +kernel
theorem dX9_stands_20 : decode cX9_stands 20 = .ok (.goto 4, 3) := by decide +kernel
theorem dX9_stands_23 : decode cX9_stands 23 = .ok (.iconst 0, 1) := by decide +kernel
theorem dX9_stands_24 : decode cX9_stands 24 = .ok (.ireturn, 1) := by decide +kernel
theorem dX9_taken_0 : decode cX9_taken 0 = .ok (.iconst 0, 1) := by decide +kernel
theorem dX9_taken_1 : decode cX9_taken 1 = .ok (.istore_n 2, 1) := by decide +kernel
theorem dX9_taken_2 : decode cX9_taken 2 = .ok (.iconst 0, 1) := by decide +kernel
theorem dX9_taken_3 : decode cX9_taken 3 = .ok (.istore_n 3, 1) := by decide +kernel
theorem dX9_taken_4 : decode cX9_taken 4 = .ok (.iload_n 3, 1) := by decide +kernel
theorem dX9_taken_5 : decode cX9_taken 5 = .ok (.bipush 6, 2) := by decide +kernel
theorem dX9_taken_7 : decode cX9_taken 7 = .ok (.if_icmp .ge 46, 3) := by decide +kernel
theorem dX9_taken_10 : decode cX9_taken 10 = .ok (.iload_n 2, 1) := by decide +kernel
theorem dX9_taken_11 : decode cX9_taken 11 = .ok (.aload_n 0, 1) := by decide +kernel
theorem dX9_taken_12 : decode cX9_taken 12 = .ok (.getfield 96, 3) := by decide +kernel
theorem dX9_taken_15 : decode cX9_taken 15 = .ok (.iload_n 3, 1) := by decide +kernel
theorem dX9_taken_16 : decode cX9_taken 16 = .ok (.baload, 1) := by decide +kernel
theorem dX9_taken_17 : decode cX9_taken 17 = .ok (.ifCond .eq 27, 3) := by decide +kernel
theorem dX9_taken_20 : decode cX9_taken 20 = .ok (.aload_n 0, 1) := by decide +kernel
theorem dX9_taken_21 : decode cX9_taken 21 = .ok (.getfield 105, 3) := by decide +kernel
theorem dX9_taken_24 : decode cX9_taken 24 = .ok (.iload_n 3, 1) := by decide +kernel
theorem dX9_taken_25 : decode cX9_taken 25 = .ok (.iaload, 1) := by decide +kernel
theorem dX9_taken_26 : decode cX9_taken 26 = .ok (.iconst 3, 1) := by decide +kernel
theorem dX9_taken_27 : decode cX9_taken 27 = .ok (.if_icmp .eq 17, 3) := by decide +kernel
theorem dX9_taken_30 : decode cX9_taken 30 = .ok (.aload_n 0, 1) := by decide +kernel
theorem dX9_taken_31 : decode cX9_taken 31 = .ok (.getfield 108, 3) := by decide +kernel
theorem dX9_taken_34 : decode cX9_taken 34 = .ok (.iload_n 3, 1) := by decide +kernel
theorem dX9_taken_35 : decode cX9_taken 35 = .ok (.iaload, 1) := by decide +kernel
theorem dX9_taken_36 : decode cX9_taken 36 = .ok (.iload_n 1, 1) := by decide +kernel
theorem dX9_taken_37 : decode cX9_taken 37 = .ok (.if_icmp .ne 7, 3) := by decide +kernel
theorem dX9_taken_40 : decode cX9_taken 40 = .ok (.iconst 1, 1) := by decide +kernel
theorem dX9_taken_41 : decode cX9_taken 41 = .ok (.goto 4, 3) := by decide +kernel
theorem dX9_taken_44 : decode cX9_taken 44 = .ok (.iconst 0, 1) := by decide +kernel
theorem dX9_taken_45 : decode cX9_taken 45 = .ok (.iadd, 1) := by decide +kernel
theorem dX9_taken_46 : decode cX9_taken 46 = .ok (.istore_n 2, 1) := by decide +kernel
theorem dX9_taken_47 : decode cX9_taken 47 = .ok (.iinc 3 1, 3) := by decide +kernel
theorem dX9_taken_50 : decode cX9_taken 50 = .ok (.goto (-46), 3) := by decide +kernel
theorem dX9_taken_53 : decode cX9_taken 53 = .ok (.iload_n 2, 1) := by decide +kernel
theorem dX9_taken_54 : decode cX9_taken 54 = .ok (.ireturn, 1) := by decide +kernel
theorem dX9_isClosed_0 : decode cX9_isClosed 0 = .ok (.aload_n 0, 1) := by decide +kernel
theorem dX9_isClosed_1 : decode cX9_isClosed 1 = .ok (.getfield 32, 3) := by decide +kernel
theorem dX9_isClosed_4 : decode cX9_isClosed 4 = .ok (.iload_n 1, 1) := by decide +kernel
theorem dX9_isClosed_5 : decode cX9_isClosed 5 = .ok (.baload, 1) := by decide +kernel
theorem dX9_isClosed_6 : decode cX9_isClosed 6 = .ok (.ifCond .ne 16, 3) := by decide +kernel
theorem dX9_isClosed_9 : decode cX9_isClosed 9 = .ok (.aload_n 0, 1) := by decide +kernel
theorem dX9_isClosed_10 : decode cX9_isClosed 10 = .ok (.getfield 29, 3) := by decide +kernel
theorem dX9_isClosed_13 : decode cX9_isClosed 13 = .ok (.iload_n 1, 1) := by decide +kernel
theorem dX9_isClosed_14 : decode cX9_isClosed 14 = .ok (.iaload, 1) := by decide +kernel
theorem dX9_isClosed_15 : decode cX9_isClosed 15 = .ok (.aload_n 0, 1) := by decide +kernel
theorem dX9_isClosed_16 : decode cX9_isClosed 16 = .ok (.getfield 187, 3) := by decide +kernel
theorem dX9_isClosed_19 : decode cX9_isClosed 19 = .ok (.if_icmp .le 7, 3) := by decide +kernel
theorem dX9_isClosed_22 : decode cX9_isClosed 22 = .ok (.iconst 1, 1) := by decide +kernel
theorem dX9_isClosed_23 : decode cX9_isClosed 23 = .ok (.goto 4, 3) := by decide +kernel
theorem dX9_isClosed_26 : decode cX9_isClosed 26 = .ok (.iconst 0, 1) := by decide +kernel
theorem dX9_isClosed_27 : decode cX9_isClosed 27 = .ok (.ireturn, 1) := by decide +kernel
theorem dX9_rests_0 : decode cX9_rests 0 = .ok (.aload_n 0, 1) := by decide +kernel
theorem dX9_rests_1 : decode cX9_rests 1 = .ok (.getfield 72, 3) := by decide +kernel
theorem dX9_rests_4 : decode cX9_rests 4 = .ok (.iload_n 1, 1) := by decide +kernel
theorem dX9_rests_5 : decode cX9_rests 5 = .ok (.iaload, 1) := by decide +kernel
theorem dX9_rests_6 : decode cX9_rests 6 = .ok (.aload_n 0, 1) := by decide +kernel
theorem dX9_rests_7 : decode cX9_rests 7 = .ok (.getfield 187, 3) := by decide +kernel
theorem dX9_rests_10 : decode cX9_rests 10 = .ok (.if_icmp .le 7, 3) := by decide +kernel
theorem dX9_rests_13 : decode cX9_rests 13 = .ok (.iconst 1, 1) := by decide +kernel
theorem dX9_rests_14 : decode cX9_rests 14 = .ok (.goto 4, 3) := by decide +kernel
theorem dX9_rests_17 : decode cX9_rests 17 = .ok (.iconst 0, 1) := by decide +kernel
theorem dX9_rests_18 : decode cX9_rests 18 = .ok (.ireturn, 1) := by decide +kernel
theorem dX9_writes_0 : decode cX9_writes 0 = .ok (.aload_n 0, 1) := by decide +kernel
theorem dX9_writes_1 : decode cX9_writes 1 = .ok (.getfield 162, 3) := by decide +kernel
theorem dX9_writes_4 : decode cX9_writes 4 = .ok (.aload_n 0, 1) := by decide +kernel
theorem dX9_writes_5 : decode cX9_writes 5 = .ok (.getfield 190, 3) := by decide +kernel
theorem dX9_writes_8 : decode cX9_writes 8 = .ok (.iload_n 1, 1) := by decide +kernel
theorem dX9_writes_9 : decode cX9_writes 9 = .ok (.iastore, 1) := by decide +kernel
theorem dX9_writes_10 : decode cX9_writes 10 = .ok (.aload_n 0, 1) := by decide +kernel
theorem dX9_writes_11 : decode cX9_writes 11 = .ok (.getfield 165, 3) := by decide +kernel
theorem dX9_writes_14 : decode cX9_writes 14 = .ok (.aload_n 0, 1) := by decide +kernel
theorem dX9_writes_15 : decode cX9_writes 15 = .ok (.getfield 190, 3) := by decide +kernel
theorem dX9_writes_18 : decode cX9_writes 18 = .ok (.bipush 100, 2) := by decide +kernel
theorem dX9_writes_20 : decode cX9_writes 20 = .ok (.iload_n 2, 1) := by decide +kernel
theorem dX9_writes_21 : decode cX9_writes 21 = .ok (.imul, 1) := by decide +kernel
theorem dX9_writes_22 : decode cX9_writes 22 = .ok (.iload_n 3, 1) := by decide +kernel
theorem dX9_writes_23 : decode cX9_writes 23 = .ok (.iadd, 1) := by decide +kernel
theorem dX9_writes_24 : decode cX9_writes 24 = .ok (.iastore, 1) := by decide +kernel
theorem dX9_writes_25 : decode cX9_writes 25 = .ok (.aload_n 0, 1) := by decide +kernel
theorem dX9_writes_26 : decode cX9_writes 26 = .ok (.dup, 1) := by decide +kernel
theorem dX9_writes_27 : decode cX9_writes 27 = .ok (.getfield 190, 3) := by decide +kernel
theorem dX9_writes_30 : decode cX9_writes 30 = .ok (.iconst 1, 1) := by decide +kernel
theorem dX9_writes_31 : decode cX9_writes 31 = .ok (.iadd, 1) := by decide +kernel
theorem dX9_writes_32 : decode cX9_writes 32 = .ok (.putfield 190, 3) := by decide +kernel
theorem dX9_writes_35 : decode cX9_writes 35 = .ok (.return_, 1) := by decide +kernel
theorem dX9_tracks_0 : decode cX9_tracks 0 = .ok (.aload_n 0, 1) := by decide +kernel
theorem dX9_tracks_1 : decode cX9_tracks 1 = .ok (.iload_n 1, 1) := by decide +kernel
theorem dX9_tracks_2 : decode cX9_tracks 2 = .ok (.invokestatic 193, 3) := by decide +kernel
theorem dX9_tracks_5 : decode cX9_tracks 5 = .ok (.ifCond .ne 7, 3) := by decide +kernel
theorem dX9_tracks_8 : decode cX9_tracks 8 = .ok (.iconst 1, 1) := by decide +kernel
theorem dX9_tracks_9 : decode cX9_tracks 9 = .ok (.goto 30, 3) := by decide +kernel
theorem dX9_tracks_12 : decode cX9_tracks 12 = .ok (.iload_n 2, 1) := by decide +kernel
theorem dX9_tracks_13 : decode cX9_tracks 13 = .ok (.iconst 1, 1) := by decide +kernel
theorem dX9_tracks_14 : decode cX9_tracks 14 = .ok (.iconst 4, 1) := by decide +kernel
theorem dX9_tracks_15 : decode cX9_tracks 15 = .ok (.invokestatic 177, 3) := by decide +kernel
theorem dX9_tracks_18 : decode cX9_tracks 18 = .ok (.ifCond .ne 7, 3) := by decide +kernel
theorem dX9_tracks_21 : decode cX9_tracks 21 = .ok (.iconst 2, 1) := by decide +kernel
theorem dX9_tracks_22 : decode cX9_tracks 22 = .ok (.goto 17, 3) := by decide +kernel
theorem dX9_tracks_25 : decode cX9_tracks 25 = .ok (.aload_n 0, 1) := by decide +kernel
theorem dX9_tracks_26 : decode cX9_tracks 26 = .ok (.iload_n 1, 1) := by decide +kernel
theorem dX9_tracks_27 : decode cX9_tracks 27 = .ok (.invokevirtual 197, 3) := by decide +kernel
theorem dX9_tracks_30 : decode cX9_tracks 30 = .ok (.iload_n 2, 1) := by decide +kernel
theorem dX9_tracks_31 : decode cX9_tracks 31 = .ok (.if_icmp .le 7, 3) := by decide +kernel
theorem dX9_tracks_34 : decode cX9_tracks 34 = .ok (.iconst 3, 1) := by decide +kernel
theorem dX9_tracks_35 : decode cX9_tracks 35 = .ok (.goto 4, 3) := by decide +kernel
theorem dX9_tracks_38 : decode cX9_tracks 38 = .ok (.iconst 0, 1) := by decide +kernel
theorem dX9_tracks_39 : decode cX9_tracks 39 = .ok (.putfield 174, 3) := by decide +kernel
theorem dX9_tracks_42 : decode cX9_tracks 42 = .ok (.aload_n 0, 1) := by decide +kernel
theorem dX9_tracks_43 : decode cX9_tracks 43 = .ok (.getfield 174, 3) := by decide +kernel
theorem dX9_tracks_46 : decode cX9_tracks 46 = .ok (.ifCond .le 5, 3) := by decide +kernel
theorem dX9_tracks_49 : decode cX9_tracks 49 = .ok (.iconst 0, 1) := by decide +kernel
theorem dX9_tracks_50 : decode cX9_tracks 50 = .ok (.ireturn, 1) := by decide +kernel
theorem dX9_tracks_51 : decode cX9_tracks 51 = .ok (.aload_n 0, 1) := by decide +kernel
theorem dX9_tracks_52 : decode cX9_tracks 52 = .ok (.getfield 13, 3) := by decide +kernel
theorem dX9_tracks_55 : decode cX9_tracks 55 = .ok (.iload_n 1, 1) := by decide +kernel
theorem dX9_tracks_56 : decode cX9_tracks 56 = .ok (.iaload, 1) := by decide +kernel
theorem dX9_tracks_57 : decode cX9_tracks 57 = .ok (.istore_n 3, 1) := by decide +kernel
theorem dX9_tracks_58 : decode cX9_tracks 58 = .ok (.aload_n 0, 1) := by decide +kernel
theorem dX9_tracks_59 : decode cX9_tracks 59 = .ok (.getfield 13, 3) := by decide +kernel
theorem dX9_tracks_62 : decode cX9_tracks 62 = .ok (.iload_n 1, 1) := by decide +kernel
theorem dX9_tracks_63 : decode cX9_tracks 63 = .ok (.iload_n 2, 1) := by decide +kernel
theorem dX9_tracks_64 : decode cX9_tracks 64 = .ok (.iastore, 1) := by decide +kernel
theorem dX9_tracks_65 : decode cX9_tracks 65 = .ok (.iload_n 3, 1) := by decide +kernel
theorem dX9_tracks_66 : decode cX9_tracks 66 = .ok (.ireturn, 1) := by decide +kernel
theorem dX9_lay_0 : decode cX9_lay 0 = .ok (.aload_n 0, 1) := by decide +kernel
theorem dX9_lay_1 : decode cX9_lay 1 = .ok (.iload_n 1, 1) := by decide +kernel
theorem dX9_lay_2 : decode cX9_lay 2 = .ok (.invokestatic 193, 3) := by decide +kernel
theorem dX9_lay_5 : decode cX9_lay 5 = .ok (.ifCond .eq 10, 3) := by decide +kernel
theorem dX9_lay_8 : decode cX9_lay 8 = .ok (.iload_n 2, 1) := by decide +kernel
theorem dX9_lay_9 : decode cX9_lay 9 = .ok (.invokestatic 193, 3) := by decide +kernel
theorem dX9_lay_12 : decode cX9_lay 12 = .ok (.ifCond .ne 7, 3) := by decide +kernel
theorem dX9_lay_15 : decode cX9_lay 15 = .ok (.iconst 1, 1) := by decide +kernel
theorem dX9_lay_16 : decode cX9_lay 16 = .ok (.goto 46, 3) := by decide +kernel
theorem dX9_lay_19 : decode cX9_lay 19 = .ok (.iload_n 1, 1) := by decide +kernel
theorem dX9_lay_20 : decode cX9_lay 20 = .ok (.iload_n 2, 1) := by decide +kernel
theorem dX9_lay_21 : decode cX9_lay 21 = .ok (.if_icmp .eq 23, 3) := by decide +kernel
theorem dX9_lay_24 : decode cX9_lay 24 = .ok (.iload_n 3, 1) := by decide +kernel
theorem dX9_lay_25 : decode cX9_lay 25 = .ok (.iconst 2, 1) := by decide +kernel
theorem dX9_lay_26 : decode cX9_lay 26 = .ok (.bipush 60, 2) := by decide +kernel
theorem dX9_lay_28 : decode cX9_lay 28 = .ok (.invokestatic 177, 3) := by decide +kernel
theorem dX9_lay_31 : decode cX9_lay 31 = .ok (.ifCond .eq 13, 3) := by decide +kernel
theorem dX9_lay_34 : decode cX9_lay 34 = .ok (.iload 4, 2) := by decide +kernel
theorem dX9_lay_36 : decode cX9_lay 36 = .ok (.iconst 0, 1) := by decide +kernel
theorem dX9_lay_37 : decode cX9_lay 37 = .ok (.iconst 3, 1) := by decide +kernel
theorem dX9_lay_38 : decode cX9_lay 38 = .ok (.invokestatic 177, 3) := by decide +kernel
theorem dX9_lay_41 : decode cX9_lay 41 = .ok (.ifCond .ne 7, 3) := by decide +kernel
theorem dX9_lay_44 : decode cX9_lay 44 = .ok (.iconst 2, 1) := by decide +kernel
theorem dX9_lay_45 : decode cX9_lay 45 = .ok (.goto 17, 3) := by decide +kernel
theorem dX9_lay_48 : decode cX9_lay 48 = .ok (.aload_n 0, 1) := by decide +kernel
theorem dX9_lay_49 : decode cX9_lay 49 = .ok (.getfield 181, 3) := by decide +kernel
theorem dX9_lay_52 : decode cX9_lay 52 = .ok (.bipush 16, 2) := by decide +kernel
theorem dX9_lay_54 : decode cX9_lay 54 = .ok (.if_icmp .ne 7, 3) := by decide +kernel
theorem dX9_lay_57 : decode cX9_lay 57 = .ok (.iconst 3, 1) := by decide +kernel
theorem dX9_lay_58 : decode cX9_lay 58 = .ok (.goto 4, 3) := by decide +kernel
theorem dX9_lay_61 : decode cX9_lay 61 = .ok (.iconst 0, 1) := by decide +kernel
theorem dX9_lay_62 : decode cX9_lay 62 = .ok (.putfield 174, 3) := by decide +kernel
theorem dX9_lay_65 : decode cX9_lay 65 = .ok (.aload_n 0, 1) := by decide +kernel
theorem dX9_lay_66 : decode cX9_lay 66 = .ok (.getfield 174, 3) := by decide +kernel
theorem dX9_lay_69 : decode cX9_lay 69 = .ok (.ifCond .le 5, 3) := by decide +kernel
theorem dX9_lay_72 : decode cX9_lay 72 = .ok (.iconst 0, 1) := by decide +kernel
theorem dX9_lay_73 : decode cX9_lay 73 = .ok (.ireturn, 1) := by decide +kernel
theorem dX9_lay_74 : decode cX9_lay 74 = .ok (.aload_n 0, 1) := by decide +kernel
theorem dX9_lay_75 : decode cX9_lay 75 = .ok (.getfield 17, 3) := by decide +kernel
theorem dX9_lay_78 : decode cX9_lay 78 = .ok (.iconst 2, 1) := by decide +kernel
theorem dX9_lay_79 : decode cX9_lay 79 = .ok (.aload_n 0, 1) := by decide +kernel
theorem dX9_lay_80 : decode cX9_lay 80 = .ok (.getfield 181, 3) := by decide +kernel
theorem dX9_lay_83 : decode cX9_lay 83 = .ok (.imul, 1) := by decide +kernel
theorem dX9_lay_84 : decode cX9_lay 84 = .ok (.iload_n 1, 1) := by decide +kernel
theorem dX9_lay_85 : decode cX9_lay 85 = .ok (.iastore, 1) := by decide +kernel
theorem dX9_lay_86 : decode cX9_lay 86 = .ok (.aload_n 0, 1) := by decide +kernel
theorem dX9_lay_87 : decode cX9_lay 87 = .ok (.getfield 17, 3) := by decide +kernel
theorem dX9_lay_90 : decode cX9_lay 90 = .ok (.iconst 2, 1) := by decide +kernel
theorem dX9_lay_91 : decode cX9_lay 91 = .ok (.aload_n 0, 1) := by decide +kernel
theorem dX9_lay_92 : decode cX9_lay 92 = .ok (.getfield 181, 3) := by decide +kernel
theorem dX9_lay_95 : decode cX9_lay 95 = .ok (.imul, 1) := by decide +kernel
theorem dX9_lay_96 : decode cX9_lay 96 = .ok (.iconst 1, 1) := by decide +kernel
theorem dX9_lay_97 : decode cX9_lay 97 = .ok (.iadd, 1) := by decide +kernel
theorem dX9_lay_98 : decode cX9_lay 98 = .ok (.iload_n 2, 1) := by decide +kernel
theorem dX9_lay_99 : decode cX9_lay 99 = .ok (.iastore, 1) := by decide +kernel
theorem dX9_lay_100 : decode cX9_lay 100 = .ok (.aload_n 0, 1) := by decide +kernel
theorem dX9_lay_101 : decode cX9_lay 101 = .ok (.getfield 20, 3) := by decide +kernel
theorem dX9_lay_104 : decode cX9_lay 104 = .ok (.aload_n 0, 1) := by decide +kernel
theorem dX9_lay_105 : decode cX9_lay 105 = .ok (.getfield 181, 3) := by decide +kernel
theorem dX9_lay_108 : decode cX9_lay 108 = .ok (.iload_n 3, 1) := by decide +kernel
theorem dX9_lay_109 : decode cX9_lay 109 = .ok (.iastore, 1) := by decide +kernel
theorem dX9_lay_110 : decode cX9_lay 110 = .ok (.aload_n 0, 1) := by decide +kernel
theorem dX9_lay_111 : decode cX9_lay 111 = .ok (.getfield 23, 3) := by decide +kernel
theorem dX9_lay_114 : decode cX9_lay 114 = .ok (.aload_n 0, 1) := by decide +kernel
theorem dX9_lay_115 : decode cX9_lay 115 = .ok (.getfield 181, 3) := by decide +kernel
theorem dX9_lay_118 : decode cX9_lay 118 = .ok (.iload 4, 2) := by decide +kernel
theorem dX9_lay_120 : decode cX9_lay 120 = .ok (.iastore, 1) := by decide +kernel
theorem dX9_lay_121 : decode cX9_lay 121 = .ok (.aload_n 0, 1) := by decide +kernel
theorem dX9_lay_122 : decode cX9_lay 122 = .ok (.getfield 48, 3) := by decide +kernel
theorem dX9_lay_125 : decode cX9_lay 125 = .ok (.aload_n 0, 1) := by decide +kernel
theorem dX9_lay_126 : decode cX9_lay 126 = .ok (.getfield 181, 3) := by decide +kernel
theorem dX9_lay_129 : decode cX9_lay 129 = .ok (.iconst (-1), 1) := by decide +kernel
theorem dX9_lay_130 : decode cX9_lay 130 = .ok (.iastore, 1) := by decide +kernel
theorem dX9_lay_131 : decode cX9_lay 131 = .ok (.aload_n 0, 1) := by decide +kernel
theorem dX9_lay_132 : decode cX9_lay 132 = .ok (.dup, 1) := by decide +kernel
theorem dX9_lay_133 : decode cX9_lay 133 = .ok (.getfield 7, 3) := by decide +kernel
theorem dX9_lay_136 : decode cX9_lay 136 = .ok (.bipush 100, 2) := by decide +kernel
theorem dX9_lay_138 : decode cX9_lay 138 = .ok (.iload_n 3, 1) := by decide +kernel
theorem dX9_lay_139 : decode cX9_lay 139 = .ok (.imul, 1) := by decide +kernel
theorem dX9_lay_140 : decode cX9_lay 140 = .ok (.isub, 1) := by decide +kernel
theorem dX9_lay_141 : decode cX9_lay 141 = .ok (.putfield 7, 3) := by decide +kernel
theorem dX9_lay_144 : decode cX9_lay 144 = .ok (.aload_n 0, 1) := by decide +kernel
theorem dX9_lay_145 : decode cX9_lay 145 = .ok (.dup, 1) := by decide +kernel
theorem dX9_lay_146 : decode cX9_lay 146 = .ok (.getfield 181, 3) := by decide +kernel
theorem dX9_lay_149 : decode cX9_lay 149 = .ok (.iconst 1, 1) := by decide +kernel
theorem dX9_lay_150 : decode cX9_lay 150 = .ok (.iadd, 1) := by decide +kernel
theorem dX9_lay_151 : decode cX9_lay 151 = .ok (.putfield 181, 3) := by decide +kernel
theorem dX9_lay_154 : decode cX9_lay 154 = .ok (.aload_n 0, 1) := by decide +kernel
theorem dX9_lay_155 : decode cX9_lay 155 = .ok (.getfield 181, 3) := by decide +kernel
theorem dX9_lay_158 : decode cX9_lay 158 = .ok (.iconst 1, 1) := by decide +kernel
theorem dX9_lay_159 : decode cX9_lay 159 = .ok (.isub, 1) := by decide +kernel
theorem dX9_lay_160 : decode cX9_lay 160 = .ok (.ireturn, 1) := by decide +kernel
theorem dX9_fail_0 : decode cX9_fail 0 = .ok (.aload_n 0, 1) := by decide +kernel
theorem dX9_fail_1 : decode cX9_fail 1 = .ok (.aload_n 0, 1) := by decide +kernel
theorem dX9_fail_2 : decode cX9_fail 2 = .ok (.iload_n 1, 1) := by decide +kernel
theorem dX9_fail_3 : decode cX9_fail 3 = .ok (.invokevirtual 201, 3) := by decide +kernel
theorem dX9_fail_6 : decode cX9_fail 6 = .ok (.ifCond .eq 7, 3) := by decide +kernel
theorem dX9_fail_9 : decode cX9_fail 9 = .ok (.iconst 0, 1) := by decide +kernel
theorem dX9_fail_10 : decode cX9_fail 10 = .ok (.goto 4, 3) := by decide +kernel
theorem dX9_fail_13 : decode cX9_fail 13 = .ok (.iconst 1, 1) := by decide +kernel
theorem dX9_fail_14 : decode cX9_fail 14 = .ok (.putfield 174, 3) := by decide +kernel
theorem dX9_fail_17 : decode cX9_fail 17 = .ok (.aload_n 0, 1) := by decide +kernel
theorem dX9_fail_18 : decode cX9_fail 18 = .ok (.getfield 174, 3) := by decide +kernel
theorem dX9_fail_21 : decode cX9_fail 21 = .ok (.ifCond .le 5, 3) := by decide +kernel
theorem dX9_fail_24 : decode cX9_fail 24 = .ok (.iconst 0, 1) := by decide +kernel
theorem dX9_fail_25 : decode cX9_fail 25 = .ok (.ireturn, 1) := by decide +kernel
theorem dX9_fail_26 : decode cX9_fail 26 = .ok (.aload_n 0, 1) := by decide +kernel
theorem dX9_fail_27 : decode cX9_fail 27 = .ok (.getfield 36, 3) := by decide +kernel
theorem dX9_fail_30 : decode cX9_fail 30 = .ok (.iload_n 1, 1) := by decide +kernel
theorem dX9_fail_31 : decode cX9_fail 31 = .ok (.baload, 1) := by decide +kernel
theorem dX9_fail_32 : decode cX9_fail 32 = .ok (.istore_n 3, 1) := by decide +kernel
theorem dX9_fail_33 : decode cX9_fail 33 = .ok (.aload_n 0, 1) := by decide +kernel
theorem dX9_fail_34 : decode cX9_fail 34 = .ok (.getfield 36, 3) := by decide +kernel
theorem dX9_fail_37 : decode cX9_fail 37 = .ok (.iload_n 1, 1) := by decide +kernel
theorem dX9_fail_38 : decode cX9_fail 38 = .ok (.iload_n 2, 1) := by decide +kernel
theorem dX9_fail_39 : decode cX9_fail 39 = .ok (.bastore, 1) := by decide +kernel
theorem dX9_fail_40 : decode cX9_fail 40 = .ok (.aload_n 0, 1) := by decide +kernel
theorem dX9_fail_41 : decode cX9_fail 41 = .ok (.getfield 39, 3) := by decide +kernel
theorem dX9_fail_44 : decode cX9_fail 44 = .ok (.iload_n 1, 1) := by decide +kernel
theorem dX9_fail_45 : decode cX9_fail 45 = .ok (.iconst 0, 1) := by decide +kernel
theorem dX9_fail_46 : decode cX9_fail 46 = .ok (.bastore, 1) := by decide +kernel
theorem dX9_fail_47 : decode cX9_fail 47 = .ok (.iload_n 3, 1) := by decide +kernel
theorem dX9_fail_48 : decode cX9_fail 48 = .ok (.ireturn, 1) := by decide +kernel
theorem dX9_flag_0 : decode cX9_flag 0 = .ok (.aload_n 0, 1) := by decide +kernel
theorem dX9_flag_1 : decode cX9_flag 1 = .ok (.aload_n 0, 1) := by decide +kernel
theorem dX9_flag_2 : decode cX9_flag 2 = .ok (.iload_n 1, 1) := by decide +kernel
theorem dX9_flag_3 : decode cX9_flag 3 = .ok (.invokevirtual 201, 3) := by decide +kernel
theorem dX9_flag_6 : decode cX9_flag 6 = .ok (.ifCond .ne 7, 3) := by decide +kernel
theorem dX9_flag_9 : decode cX9_flag 9 = .ok (.iconst 1, 1) := by decide +kernel
theorem dX9_flag_10 : decode cX9_flag 10 = .ok (.goto 26, 3) := by decide +kernel
theorem dX9_flag_13 : decode cX9_flag 13 = .ok (.aload_n 0, 1) := by decide +kernel
theorem dX9_flag_14 : decode cX9_flag 14 = .ok (.getfield 36, 3) := by decide +kernel
theorem dX9_flag_17 : decode cX9_flag 17 = .ok (.iload_n 1, 1) := by decide +kernel
theorem dX9_flag_18 : decode cX9_flag 18 = .ok (.baload, 1) := by decide +kernel
theorem dX9_flag_19 : decode cX9_flag 19 = .ok (.ifCond .eq 12, 3) := by decide +kernel
theorem dX9_flag_22 : decode cX9_flag 22 = .ok (.aload_n 0, 1) := by decide +kernel
theorem dX9_flag_23 : decode cX9_flag 23 = .ok (.getfield 39, 3) := by decide +kernel
theorem dX9_flag_26 : decode cX9_flag 26 = .ok (.iload_n 1, 1) := by decide +kernel
theorem dX9_flag_27 : decode cX9_flag 27 = .ok (.baload, 1) := by decide +kernel
theorem dX9_flag_28 : decode cX9_flag 28 = .ok (.ifCond .eq 7, 3) := by decide +kernel
theorem dX9_flag_31 : decode cX9_flag 31 = .ok (.iconst 2, 1) := by decide +kernel
theorem dX9_flag_32 : decode cX9_flag 32 = .ok (.goto 4, 3) := by decide +kernel
theorem dX9_flag_35 : decode cX9_flag 35 = .ok (.iconst 0, 1) := by decide +kernel
theorem dX9_flag_36 : decode cX9_flag 36 = .ok (.putfield 174, 3) := by decide +kernel
theorem dX9_flag_39 : decode cX9_flag 39 = .ok (.aload_n 0, 1) := by decide +kernel
theorem dX9_flag_40 : decode cX9_flag 40 = .ok (.getfield 174, 3) := by decide +kernel
theorem dX9_flag_43 : decode cX9_flag 43 = .ok (.ifCond .ne 10, 3) := by decide +kernel
theorem dX9_flag_46 : decode cX9_flag 46 = .ok (.aload_n 0, 1) := by decide +kernel
theorem dX9_flag_47 : decode cX9_flag 47 = .ok (.getfield 39, 3) := by decide +kernel
theorem dX9_flag_50 : decode cX9_flag 50 = .ok (.iload_n 1, 1) := by decide +kernel
theorem dX9_flag_51 : decode cX9_flag 51 = .ok (.iconst 1, 1) := by decide +kernel
theorem dX9_flag_52 : decode cX9_flag 52 = .ok (.bastore, 1) := by decide +kernel
theorem dX9_flag_53 : decode cX9_flag 53 = .ok (.return_, 1) := by decide +kernel
theorem dX9_hours_0 : decode cX9_hours 0 = .ok (.aload_n 0, 1) := by decide +kernel
theorem dX9_hours_1 : decode cX9_hours 1 = .ok (.aload_n 0, 1) := by decide +kernel
theorem dX9_hours_2 : decode cX9_hours 2 = .ok (.iload_n 1, 1) := by decide +kernel
theorem dX9_hours_3 : decode cX9_hours 3 = .ok (.invokevirtual 201, 3) := by decide +kernel
theorem dX9_hours_6 : decode cX9_hours 6 = .ok (.ifCond .ne 7, 3) := by decide +kernel
theorem dX9_hours_9 : decode cX9_hours 9 = .ok (.iconst 1, 1) := by decide +kernel
theorem dX9_hours_10 : decode cX9_hours 10 = .ok (.goto 30, 3) := by decide +kernel
theorem dX9_hours_13 : decode cX9_hours 13 = .ok (.iload_n 2, 1) := by decide +kernel
theorem dX9_hours_14 : decode cX9_hours 14 = .ok (.iconst 0, 1) := by decide +kernel
theorem dX9_hours_15 : decode cX9_hours 15 = .ok (.sipush 1440, 3) := by decide +kernel
theorem dX9_hours_18 : decode cX9_hours 18 = .ok (.invokestatic 177, 3) := by decide +kernel
theorem dX9_hours_21 : decode cX9_hours 21 = .ok (.ifCond .eq 14, 3) := by decide +kernel
theorem dX9_hours_24 : decode cX9_hours 24 = .ok (.iload_n 3, 1) := by decide +kernel
theorem dX9_hours_25 : decode cX9_hours 25 = .ok (.iload_n 2, 1) := by decide +kernel
theorem dX9_hours_26 : decode cX9_hours 26 = .ok (.sipush 1440, 3) := by decide +kernel
theorem dX9_hours_29 : decode cX9_hours 29 = .ok (.invokestatic 177, 3) := by decide +kernel
theorem dX9_hours_32 : decode cX9_hours 32 = .ok (.ifCond .ne 7, 3) := by decide +kernel
theorem dX9_hours_35 : decode cX9_hours 35 = .ok (.iconst 2, 1) := by decide +kernel
theorem dX9_hours_36 : decode cX9_hours 36 = .ok (.goto 4, 3) := by decide +kernel
theorem dX9_hours_39 : decode cX9_hours 39 = .ok (.iconst 0, 1) := by decide +kernel
theorem dX9_hours_40 : decode cX9_hours 40 = .ok (.putfield 174, 3) := by decide +kernel
theorem dX9_hours_43 : decode cX9_hours 43 = .ok (.aload_n 0, 1) := by decide +kernel
theorem dX9_hours_44 : decode cX9_hours 44 = .ok (.getfield 174, 3) := by decide +kernel
theorem dX9_hours_47 : decode cX9_hours 47 = .ok (.ifCond .ne 17, 3) := by decide +kernel
theorem dX9_hours_50 : decode cX9_hours 50 = .ok (.aload_n 0, 1) := by decide +kernel
theorem dX9_hours_51 : decode cX9_hours 51 = .ok (.getfield 42, 3) := by decide +kernel
theorem dX9_hours_54 : decode cX9_hours 54 = .ok (.iload_n 1, 1) := by decide +kernel
theorem dX9_hours_55 : decode cX9_hours 55 = .ok (.iload_n 2, 1) := by decide +kernel
theorem dX9_hours_56 : decode cX9_hours 56 = .ok (.iastore, 1) := by decide +kernel
theorem dX9_hours_57 : decode cX9_hours 57 = .ok (.aload_n 0, 1) := by decide +kernel
theorem dX9_hours_58 : decode cX9_hours 58 = .ok (.getfield 45, 3) := by decide +kernel
theorem dX9_hours_61 : decode cX9_hours 61 = .ok (.iload_n 1, 1) := by decide +kernel
theorem dX9_hours_62 : decode cX9_hours 62 = .ok (.iload_n 3, 1) := by decide +kernel
theorem dX9_hours_63 : decode cX9_hours 63 = .ok (.iastore, 1) := by decide +kernel
theorem dX9_hours_64 : decode cX9_hours 64 = .ok (.return_, 1) := by decide +kernel
theorem dX9_repair_0 : decode cX9_repair 0 = .ok (.aload_n 0, 1) := by decide +kernel
theorem dX9_repair_1 : decode cX9_repair 1 = .ok (.aload_n 0, 1) := by decide +kernel
theorem dX9_repair_2 : decode cX9_repair 2 = .ok (.iload_n 1, 1) := by decide +kernel
theorem dX9_repair_3 : decode cX9_repair 3 = .ok (.invokevirtual 201, 3) := by decide +kernel
theorem dX9_repair_6 : decode cX9_repair 6 = .ok (.ifCond .ne 7, 3) := by decide +kernel
theorem dX9_repair_9 : decode cX9_repair 9 = .ok (.iconst 1, 1) := by decide +kernel
theorem dX9_repair_10 : decode cX9_repair 10 = .ok (.goto 26, 3) := by decide +kernel
theorem dX9_repair_13 : decode cX9_repair 13 = .ok (.aload_n 0, 1) := by decide +kernel
theorem dX9_repair_14 : decode cX9_repair 14 = .ok (.getfield 48, 3) := by decide +kernel
theorem dX9_repair_17 : decode cX9_repair 17 = .ok (.iload_n 1, 1) := by decide +kernel
theorem dX9_repair_18 : decode cX9_repair 18 = .ok (.iaload, 1) := by decide +kernel
theorem dX9_repair_19 : decode cX9_repair 19 = .ok (.iconst (-1), 1) := by decide +kernel
theorem dX9_repair_20 : decode cX9_repair 20 = .ok (.if_icmp .ne 11, 3) := by decide +kernel
theorem dX9_repair_23 : decode cX9_repair 23 = .ok (.aload_n 0, 1) := by decide +kernel
theorem dX9_repair_24 : decode cX9_repair 24 = .ok (.iload_n 1, 1) := by decide +kernel
theorem dX9_repair_25 : decode cX9_repair 25 = .ok (.invokevirtual 204, 3) := by decide +kernel
theorem dX9_repair_28 : decode cX9_repair 28 = .ok (.ifCond .eq 7, 3) := by decide +kernel
theorem dX9_repair_31 : decode cX9_repair 31 = .ok (.iconst 2, 1) := by decide +kernel
theorem dX9_repair_32 : decode cX9_repair 32 = .ok (.goto 4, 3) := by decide +kernel
theorem dX9_repair_35 : decode cX9_repair 35 = .ok (.iconst 0, 1) := by decide +kernel
theorem dX9_repair_36 : decode cX9_repair 36 = .ok (.putfield 174, 3) := by decide +kernel
theorem dX9_repair_39 : decode cX9_repair 39 = .ok (.aload_n 0, 1) := by decide +kernel
theorem dX9_repair_40 : decode cX9_repair 40 = .ok (.getfield 174, 3) := by decide +kernel
theorem dX9_repair_43 : decode cX9_repair 43 = .ok (.ifCond .le 5, 3) := by decide +kernel
theorem dX9_repair_46 : decode cX9_repair 46 = .ok (.iconst 0, 1) := by decide +kernel
theorem dX9_repair_47 : decode cX9_repair 47 = .ok (.ireturn, 1) := by decide +kernel
theorem dX9_repair_48 : decode cX9_repair 48 = .ok (.iconst 5, 1) := by decide +kernel
theorem dX9_repair_49 : decode cX9_repair 49 = .ok (.aload_n 0, 1) := by decide +kernel
theorem dX9_repair_50 : decode cX9_repair 50 = .ok (.getfield 26, 3) := by decide +kernel
theorem dX9_repair_53 : decode cX9_repair 53 = .ok (.iload_n 1, 1) := by decide +kernel
theorem dX9_repair_54 : decode cX9_repair 54 = .ok (.iaload, 1) := by decide +kernel
theorem dX9_repair_55 : decode cX9_repair 55 = .ok (.imul, 1) := by decide +kernel
theorem dX9_repair_56 : decode cX9_repair 56 = .ok (.istore_n 2, 1) := by decide +kernel
theorem dX9_repair_57 : decode cX9_repair 57 = .ok (.aload_n 0, 1) := by decide +kernel
theorem dX9_repair_58 : decode cX9_repair 58 = .ok (.dup, 1) := by decide +kernel
theorem dX9_repair_59 : decode cX9_repair 59 = .ok (.getfield 7, 3) := by decide +kernel
theorem dX9_repair_62 : decode cX9_repair 62 = .ok (.iload_n 2, 1) := by decide +kernel
theorem dX9_repair_63 : decode cX9_repair 63 = .ok (.isub, 1) := by decide +kernel
theorem dX9_repair_64 : decode cX9_repair 64 = .ok (.putfield 7, 3) := by decide +kernel
theorem dX9_repair_67 : decode cX9_repair 67 = .ok (.aload_n 0, 1) := by decide +kernel
theorem dX9_repair_68 : decode cX9_repair 68 = .ok (.getfield 26, 3) := by decide +kernel
theorem dX9_repair_71 : decode cX9_repair 71 = .ok (.iload_n 1, 1) := by decide +kernel
theorem dX9_repair_72 : decode cX9_repair 72 = .ok (.iconst 0, 1) := by decide +kernel
theorem dX9_repair_73 : decode cX9_repair 73 = .ok (.iastore, 1) := by decide +kernel
theorem dX9_repair_74 : decode cX9_repair 74 = .ok (.aload_n 0, 1) := by decide +kernel
theorem dX9_repair_75 : decode cX9_repair 75 = .ok (.getfield 29, 3) := by decide +kernel
theorem dX9_repair_78 : decode cX9_repair 78 = .ok (.iload_n 1, 1) := by decide +kernel
theorem dX9_repair_79 : decode cX9_repair 79 = .ok (.aload_n 0, 1) := by decide +kernel
theorem dX9_repair_80 : decode cX9_repair 80 = .ok (.getfield 187, 3) := by decide +kernel
theorem dX9_repair_83 : decode cX9_repair 83 = .ok (.bipush 30, 2) := by decide +kernel
theorem dX9_repair_85 : decode cX9_repair 85 = .ok (.iadd, 1) := by decide +kernel
theorem dX9_repair_86 : decode cX9_repair 86 = .ok (.iastore, 1) := by decide +kernel
theorem dX9_repair_87 : decode cX9_repair 87 = .ok (.iload_n 2, 1) := by decide +kernel
theorem dX9_repair_88 : decode cX9_repair 88 = .ok (.ireturn, 1) := by decide +kernel
theorem dX9_engine_0 : decode cX9_engine 0 = .ok (.aload_n 0, 1) := by decide +kernel
theorem dX9_engine_1 : decode cX9_engine 1 = .ok (.iload_n 1, 1) := by decide +kernel
theorem dX9_engine_2 : decode cX9_engine 2 = .ok (.invokestatic 193, 3) := by decide +kernel
theorem dX9_engine_5 : decode cX9_engine 5 = .ok (.ifCond .ne 7, 3) := by decide +kernel
theorem dX9_engine_8 : decode cX9_engine 8 = .ok (.iconst 1, 1) := by decide +kernel
theorem dX9_engine_9 : decode cX9_engine 9 = .ok (.goto 31, 3) := by decide +kernel
theorem dX9_engine_12 : decode cX9_engine 12 = .ok (.iload_n 2, 1) := by decide +kernel
theorem dX9_engine_13 : decode cX9_engine 13 = .ok (.iconst 1, 1) := by decide +kernel
theorem dX9_engine_14 : decode cX9_engine 14 = .ok (.bipush 9, 2) := by decide +kernel
theorem dX9_engine_16 : decode cX9_engine 16 = .ok (.invokestatic 177, 3) := by decide +kernel
theorem dX9_engine_19 : decode cX9_engine 19 = .ok (.ifCond .ne 7, 3) := by decide +kernel
theorem dX9_engine_22 : decode cX9_engine 22 = .ok (.iconst 2, 1) := by decide +kernel
theorem dX9_engine_23 : decode cX9_engine 23 = .ok (.goto 17, 3) := by decide +kernel
theorem dX9_engine_26 : decode cX9_engine 26 = .ok (.aload_n 0, 1) := by decide +kernel
theorem dX9_engine_27 : decode cX9_engine 27 = .ok (.getfield 207, 3) := by decide +kernel
theorem dX9_engine_30 : decode cX9_engine 30 = .ok (.bipush 6, 2) := by decide +kernel
theorem dX9_engine_32 : decode cX9_engine 32 = .ok (.if_icmp .ne 7, 3) := by decide +kernel
theorem dX9_engine_35 : decode cX9_engine 35 = .ok (.iconst 3, 1) := by decide +kernel
theorem dX9_engine_36 : decode cX9_engine 36 = .ok (.goto 4, 3) := by decide +kernel
theorem dX9_engine_39 : decode cX9_engine 39 = .ok (.iconst 0, 1) := by decide +kernel
theorem dX9_engine_40 : decode cX9_engine 40 = .ok (.putfield 174, 3) := by decide +kernel
theorem dX9_engine_43 : decode cX9_engine 43 = .ok (.aload_n 0, 1) := by decide +kernel
theorem dX9_engine_44 : decode cX9_engine 44 = .ok (.getfield 174, 3) := by decide +kernel
theorem dX9_engine_47 : decode cX9_engine 47 = .ok (.ifCond .le 5, 3) := by decide +kernel
theorem dX9_engine_50 : decode cX9_engine 50 = .ok (.iconst 0, 1) := by decide +kernel
theorem dX9_engine_51 : decode cX9_engine 51 = .ok (.ireturn, 1) := by decide +kernel
theorem dX9_engine_52 : decode cX9_engine 52 = .ok (.aload_n 0, 1) := by decide +kernel
theorem dX9_engine_53 : decode cX9_engine 53 = .ok (.getfield 54, 3) := by decide +kernel
theorem dX9_engine_56 : decode cX9_engine 56 = .ok (.aload_n 0, 1) := by decide +kernel
theorem dX9_engine_57 : decode cX9_engine 57 = .ok (.getfield 207, 3) := by decide +kernel
theorem dX9_engine_60 : decode cX9_engine 60 = .ok (.iload_n 2, 1) := by decide +kernel
theorem dX9_engine_61 : decode cX9_engine 61 = .ok (.iastore, 1) := by decide +kernel
theorem dX9_engine_62 : decode cX9_engine 62 = .ok (.aload_n 0, 1) := by decide +kernel
theorem dX9_engine_63 : decode cX9_engine 63 = .ok (.getfield 57, 3) := by decide +kernel
theorem dX9_engine_66 : decode cX9_engine 66 = .ok (.aload_n 0, 1) := by decide +kernel
theorem dX9_engine_67 : decode cX9_engine 67 = .ok (.getfield 207, 3) := by decide +kernel
theorem dX9_engine_70 : decode cX9_engine 70 = .ok (.iload_n 1, 1) := by decide +kernel
theorem dX9_engine_71 : decode cX9_engine 71 = .ok (.iastore, 1) := by decide +kernel
theorem dX9_engine_72 : decode cX9_engine 72 = .ok (.aload_n 0, 1) := by decide +kernel
theorem dX9_engine_73 : decode cX9_engine 73 = .ok (.getfield 60, 3) := by decide +kernel
theorem dX9_engine_76 : decode cX9_engine 76 = .ok (.aload_n 0, 1) := by decide +kernel
theorem dX9_engine_77 : decode cX9_engine 77 = .ok (.getfield 207, 3) := by decide +kernel
theorem dX9_engine_80 : decode cX9_engine 80 = .ok (.iconst (-1), 1) := by decide +kernel
theorem dX9_engine_81 : decode cX9_engine 81 = .ok (.iastore, 1) := by decide +kernel
theorem dX9_engine_82 : decode cX9_engine 82 = .ok (.aload_n 0, 1) := by decide +kernel
theorem dX9_engine_83 : decode cX9_engine 83 = .ok (.dup, 1) := by decide +kernel
theorem dX9_engine_84 : decode cX9_engine 84 = .ok (.getfield 7, 3) := by decide +kernel
theorem dX9_engine_87 : decode cX9_engine 87 = .ok (.bipush 100, 2) := by decide +kernel
theorem dX9_engine_89 : decode cX9_engine 89 = .ok (.iload_n 2, 1) := by decide +kernel
theorem dX9_engine_90 : decode cX9_engine 90 = .ok (.imul, 1) := by decide +kernel
theorem dX9_engine_91 : decode cX9_engine 91 = .ok (.isub, 1) := by decide +kernel
theorem dX9_engine_92 : decode cX9_engine 92 = .ok (.putfield 7, 3) := by decide +kernel
theorem dX9_engine_95 : decode cX9_engine 95 = .ok (.aload_n 0, 1) := by decide +kernel
theorem dX9_engine_96 : decode cX9_engine 96 = .ok (.dup, 1) := by decide +kernel
theorem dX9_engine_97 : decode cX9_engine 97 = .ok (.getfield 207, 3) := by decide +kernel
theorem dX9_engine_100 : decode cX9_engine 100 = .ok (.iconst 1, 1) := by decide +kernel
theorem dX9_engine_101 : decode cX9_engine 101 = .ok (.iadd, 1) := by decide +kernel
theorem dX9_engine_102 : decode cX9_engine 102 = .ok (.putfield 207, 3) := by decide +kernel
theorem dX9_engine_105 : decode cX9_engine 105 = .ok (.aload_n 0, 1) := by decide +kernel
theorem dX9_engine_106 : decode cX9_engine 106 = .ok (.getfield 207, 3) := by decide +kernel
theorem dX9_engine_109 : decode cX9_engine 109 = .ok (.iconst 1, 1) := by decide +kernel
theorem dX9_engine_110 : decode cX9_engine 110 = .ok (.isub, 1) := by decide +kernel
theorem dX9_engine_111 : decode cX9_engine 111 = .ok (.ireturn, 1) := by decide +kernel
theorem dX9_crew_0 : decode cX9_crew 0 = .ok (.aload_n 0, 1) := by decide +kernel
theorem dX9_crew_1 : decode cX9_crew 1 = .ok (.iload_n 1, 1) := by decide +kernel
theorem dX9_crew_2 : decode cX9_crew 2 = .ok (.invokestatic 193, 3) := by decide +kernel
theorem dX9_crew_5 : decode cX9_crew 5 = .ok (.ifCond .ne 7, 3) := by decide +kernel
theorem dX9_crew_8 : decode cX9_crew 8 = .ok (.iconst 1, 1) := by decide +kernel
theorem dX9_crew_9 : decode cX9_crew 9 = .ok (.goto 17, 3) := by decide +kernel
theorem dX9_crew_12 : decode cX9_crew 12 = .ok (.aload_n 0, 1) := by decide +kernel
theorem dX9_crew_13 : decode cX9_crew 13 = .ok (.getfield 210, 3) := by decide +kernel
theorem dX9_crew_16 : decode cX9_crew 16 = .ok (.bipush 6, 2) := by decide +kernel
theorem dX9_crew_18 : decode cX9_crew 18 = .ok (.if_icmp .ne 7, 3) := by decide +kernel
theorem dX9_crew_21 : decode cX9_crew 21 = .ok (.iconst 2, 1) := by decide +kernel
theorem dX9_crew_22 : decode cX9_crew 22 = .ok (.goto 4, 3) := by decide +kernel
theorem dX9_crew_25 : decode cX9_crew 25 = .ok (.iconst 0, 1) := by decide +kernel
theorem dX9_crew_26 : decode cX9_crew 26 = .ok (.putfield 174, 3) := by decide +kernel
theorem dX9_crew_29 : decode cX9_crew 29 = .ok (.aload_n 0, 1) := by decide +kernel
theorem dX9_crew_30 : decode cX9_crew 30 = .ok (.getfield 174, 3) := by decide +kernel
theorem dX9_crew_33 : decode cX9_crew 33 = .ok (.ifCond .le 5, 3) := by decide +kernel
theorem dX9_crew_36 : decode cX9_crew 36 = .ok (.iconst 0, 1) := by decide +kernel
theorem dX9_crew_37 : decode cX9_crew 37 = .ok (.ireturn, 1) := by decide +kernel
theorem dX9_crew_38 : decode cX9_crew 38 = .ok (.aload_n 0, 1) := by decide +kernel
theorem dX9_crew_39 : decode cX9_crew 39 = .ok (.getfield 63, 3) := by decide +kernel
theorem dX9_crew_42 : decode cX9_crew 42 = .ok (.aload_n 0, 1) := by decide +kernel
theorem dX9_crew_43 : decode cX9_crew 43 = .ok (.getfield 210, 3) := by decide +kernel
theorem dX9_crew_46 : decode cX9_crew 46 = .ok (.iload_n 1, 1) := by decide +kernel
theorem dX9_crew_47 : decode cX9_crew 47 = .ok (.iastore, 1) := by decide +kernel
theorem dX9_crew_48 : decode cX9_crew 48 = .ok (.aload_n 0, 1) := by decide +kernel
theorem dX9_crew_49 : decode cX9_crew 49 = .ok (.getfield 66, 3) := by decide +kernel
theorem dX9_crew_52 : decode cX9_crew 52 = .ok (.aload_n 0, 1) := by decide +kernel
theorem dX9_crew_53 : decode cX9_crew 53 = .ok (.getfield 210, 3) := by decide +kernel
theorem dX9_crew_56 : decode cX9_crew 56 = .ok (.iconst (-1), 1) := by decide +kernel
theorem dX9_crew_57 : decode cX9_crew 57 = .ok (.iastore, 1) := by decide +kernel
theorem dX9_crew_58 : decode cX9_crew 58 = .ok (.aload_n 0, 1) := by decide +kernel
theorem dX9_crew_59 : decode cX9_crew 59 = .ok (.dup, 1) := by decide +kernel
theorem dX9_crew_60 : decode cX9_crew 60 = .ok (.getfield 210, 3) := by decide +kernel
theorem dX9_crew_63 : decode cX9_crew 63 = .ok (.iconst 1, 1) := by decide +kernel
theorem dX9_crew_64 : decode cX9_crew 64 = .ok (.iadd, 1) := by decide +kernel
theorem dX9_crew_65 : decode cX9_crew 65 = .ok (.putfield 210, 3) := by decide +kernel
theorem dX9_crew_68 : decode cX9_crew 68 = .ok (.aload_n 0, 1) := by decide +kernel
theorem dX9_crew_69 : decode cX9_crew 69 = .ok (.getfield 210, 3) := by decide +kernel
theorem dX9_crew_72 : decode cX9_crew 72 = .ok (.iconst 1, 1) := by decide +kernel
theorem dX9_crew_73 : decode cX9_crew 73 = .ok (.isub, 1) := by decide +kernel
theorem dX9_crew_74 : decode cX9_crew 74 = .ok (.ireturn, 1) := by decide +kernel
theorem dX9_isCrew_0 : decode cX9_isCrew 0 = .ok (.iload_n 1, 1) := by decide +kernel
theorem dX9_isCrew_1 : decode cX9_isCrew 1 = .ok (.iconst 0, 1) := by decide +kernel
theorem dX9_isCrew_2 : decode cX9_isCrew 2 = .ok (.aload_n 0, 1) := by decide +kernel
theorem dX9_isCrew_3 : decode cX9_isCrew 3 = .ok (.getfield 210, 3) := by decide +kernel
theorem dX9_isCrew_6 : decode cX9_isCrew 6 = .ok (.iconst 1, 1) := by decide +kernel
theorem dX9_isCrew_7 : decode cX9_isCrew 7 = .ok (.isub, 1) := by decide +kernel
theorem dX9_isCrew_8 : decode cX9_isCrew 8 = .ok (.invokestatic 177, 3) := by decide +kernel
theorem dX9_isCrew_11 : decode cX9_isCrew 11 = .ok (.ireturn, 1) := by decide +kernel
theorem dX9_learn_0 : decode cX9_learn 0 = .ok (.aload_n 0, 1) := by decide +kernel
theorem dX9_learn_1 : decode cX9_learn 1 = .ok (.aload_n 0, 1) := by decide +kernel
theorem dX9_learn_2 : decode cX9_learn 2 = .ok (.iload_n 1, 1) := by decide +kernel
theorem dX9_learn_3 : decode cX9_learn 3 = .ok (.invokevirtual 213, 3) := by decide +kernel
theorem dX9_learn_6 : decode cX9_learn 6 = .ok (.ifCond .eq 15, 3) := by decide +kernel
theorem dX9_learn_9 : decode cX9_learn 9 = .ok (.aload_n 0, 1) := by decide +kernel
theorem dX9_learn_10 : decode cX9_learn 10 = .ok (.iload_n 2, 1) := by decide +kernel
theorem dX9_learn_11 : decode cX9_learn 11 = .ok (.invokevirtual 201, 3) := by decide +kernel
theorem dX9_learn_14 : decode cX9_learn 14 = .ok (.ifCond .eq 7, 3) := by decide +kernel
theorem dX9_learn_17 : decode cX9_learn 17 = .ok (.iconst 0, 1) := by decide +kernel
theorem dX9_learn_18 : decode cX9_learn 18 = .ok (.goto 4, 3) := by decide +kernel
theorem dX9_learn_21 : decode cX9_learn 21 = .ok (.iconst 1, 1) := by decide +kernel
theorem dX9_learn_22 : decode cX9_learn 22 = .ok (.putfield 174, 3) := by decide +kernel
theorem dX9_learn_25 : decode cX9_learn 25 = .ok (.aload_n 0, 1) := by decide +kernel
theorem dX9_learn_26 : decode cX9_learn 26 = .ok (.getfield 174, 3) := by decide +kernel
theorem dX9_learn_29 : decode cX9_learn 29 = .ok (.ifCond .le 5, 3) := by decide +kernel
theorem dX9_learn_32 : decode cX9_learn 32 = .ok (.iconst 0, 1) := by decide +kernel
theorem dX9_learn_33 : decode cX9_learn 33 = .ok (.ireturn, 1) := by decide +kernel
theorem dX9_learn_34 : decode cX9_learn 34 = .ok (.aload_n 0, 1) := by decide +kernel
theorem dX9_learn_35 : decode cX9_learn 35 = .ok (.getfield 75, 3) := by decide +kernel
theorem dX9_learn_38 : decode cX9_learn 38 = .ok (.bipush 16, 2) := by decide +kernel
theorem dX9_learn_40 : decode cX9_learn 40 = .ok (.iload_n 1, 1) := by decide +kernel
theorem dX9_learn_41 : decode cX9_learn 41 = .ok (.imul, 1) := by decide +kernel
theorem dX9_learn_42 : decode cX9_learn 42 = .ok (.iload_n 2, 1) := by decide +kernel
theorem dX9_learn_43 : decode cX9_learn 43 = .ok (.iadd, 1) := by decide +kernel
theorem dX9_learn_44 : decode cX9_learn 44 = .ok (.iconst 1, 1) := by decide +kernel
theorem dX9_learn_45 : decode cX9_learn 45 = .ok (.bastore, 1) := by decide +kernel
theorem dX9_learn_46 : decode cX9_learn 46 = .ok (.iconst 0, 1) := by decide +kernel
theorem dX9_learn_47 : decode cX9_learn 47 = .ok (.istore_n 3, 1) := by decide +kernel
theorem dX9_learn_48 : decode cX9_learn 48 = .ok (.bipush 16, 2) := by decide +kernel
theorem dX9_learn_50 : decode cX9_learn 50 = .ok (.iload_n 1, 1) := by decide +kernel
theorem dX9_learn_51 : decode cX9_learn 51 = .ok (.imul, 1) := by decide +kernel
theorem dX9_learn_52 : decode cX9_learn 52 = .ok (.istore 4, 2) := by decide +kernel
theorem dX9_learn_54 : decode cX9_learn 54 = .ok (.iload 4, 2) := by decide +kernel
theorem dX9_learn_56 : decode cX9_learn 56 = .ok (.bipush 16, 2) := by decide +kernel
theorem dX9_learn_58 : decode cX9_learn 58 = .ok (.iload_n 1, 1) := by decide +kernel
theorem dX9_learn_59 : decode cX9_learn 59 = .ok (.imul, 1) := by decide +kernel
theorem dX9_learn_60 : decode cX9_learn 60 = .ok (.bipush 16, 2) := by decide +kernel
theorem dX9_learn_62 : decode cX9_learn 62 = .ok (.iadd, 1) := by decide +kernel
theorem dX9_learn_63 : decode cX9_learn 63 = .ok (.if_icmp .ge 27, 3) := by decide +kernel
theorem dX9_learn_66 : decode cX9_learn 66 = .ok (.iload_n 3, 1) := by decide +kernel
theorem dX9_learn_67 : decode cX9_learn 67 = .ok (.aload_n 0, 1) := by decide +kernel
theorem dX9_learn_68 : decode cX9_learn 68 = .ok (.getfield 75, 3) := by decide +kernel
theorem dX9_learn_71 : decode cX9_learn 71 = .ok (.iload 4, 2) := by decide +kernel
theorem dX9_learn_73 : decode cX9_learn 73 = .ok (.baload, 1) := by decide +kernel
theorem dX9_learn_74 : decode cX9_learn 74 = .ok (.ifCond .eq 7, 3) := by decide +kernel
theorem dX9_learn_77 : decode cX9_learn 77 = .ok (.iconst 1, 1) := by decide +kernel
theorem dX9_learn_78 : decode cX9_learn 78 = .ok (.goto 4, 3) := by decide +kernel
theorem dX9_learn_81 : decode cX9_learn 81 = .ok (.iconst 0, 1) := by decide +kernel
theorem dX9_learn_82 : decode cX9_learn 82 = .ok (.iadd, 1) := by decide +kernel
theorem dX9_learn_83 : decode cX9_learn 83 = .ok (.istore_n 3, 1) := by decide +kernel
theorem dX9_learn_84 : decode cX9_learn 84 = .ok (.iinc 4 1, 3) := by decide +kernel
theorem dX9_learn_87 : decode cX9_learn 87 = .ok (.goto (-33), 3) := by decide +kernel
theorem dX9_learn_90 : decode cX9_learn 90 = .ok (.iload_n 3, 1) := by decide +kernel
theorem dX9_learn_91 : decode cX9_learn 91 = .ok (.ireturn, 1) := by decide +kernel
theorem dX9_rest_0 : decode cX9_rest 0 = .ok (.aload_n 0, 1) := by decide +kernel
theorem dX9_rest_1 : decode cX9_rest 1 = .ok (.aload_n 0, 1) := by decide +kernel
theorem dX9_rest_2 : decode cX9_rest 2 = .ok (.iload_n 1, 1) := by decide +kernel
theorem dX9_rest_3 : decode cX9_rest 3 = .ok (.invokevirtual 213, 3) := by decide +kernel
theorem dX9_rest_6 : decode cX9_rest 6 = .ok (.ifCond .ne 7, 3) := by decide +kernel
theorem dX9_rest_9 : decode cX9_rest 9 = .ok (.iconst 1, 1) := by decide +kernel
theorem dX9_rest_10 : decode cX9_rest 10 = .ok (.goto 39, 3) := by decide +kernel
theorem dX9_rest_13 : decode cX9_rest 13 = .ok (.aload_n 0, 1) := by decide +kernel
theorem dX9_rest_14 : decode cX9_rest 14 = .ok (.iload_n 1, 1) := by decide +kernel
theorem dX9_rest_15 : decode cX9_rest 15 = .ok (.invokevirtual 216, 3) := by decide +kernel
theorem dX9_rest_18 : decode cX9_rest 18 = .ok (.ifCond .ne 26, 3) := by decide +kernel
theorem dX9_rest_21 : decode cX9_rest 21 = .ok (.aload_n 0, 1) := by decide +kernel
theorem dX9_rest_22 : decode cX9_rest 22 = .ok (.getfield 66, 3) := by decide +kernel
theorem dX9_rest_25 : decode cX9_rest 25 = .ok (.iload_n 1, 1) := by decide +kernel
theorem dX9_rest_26 : decode cX9_rest 26 = .ok (.iaload, 1) := by decide +kernel
theorem dX9_rest_27 : decode cX9_rest 27 = .ok (.iconst (-1), 1) := by decide +kernel
theorem dX9_rest_28 : decode cX9_rest 28 = .ok (.if_icmp .eq 20, 3) := by decide +kernel
theorem dX9_rest_31 : decode cX9_rest 31 = .ok (.aload_n 0, 1) := by decide +kernel
theorem dX9_rest_32 : decode cX9_rest 32 = .ok (.aload_n 0, 1) := by decide +kernel
theorem dX9_rest_33 : decode cX9_rest 33 = .ok (.getfield 66, 3) := by decide +kernel
theorem dX9_rest_36 : decode cX9_rest 36 = .ok (.iload_n 1, 1) := by decide +kernel
theorem dX9_rest_37 : decode cX9_rest 37 = .ok (.iaload, 1) := by decide +kernel
theorem dX9_rest_38 : decode cX9_rest 38 = .ok (.invokevirtual 219, 3) := by decide +kernel
theorem dX9_rest_41 : decode cX9_rest 41 = .ok (.ifCond .ne 7, 3) := by decide +kernel
theorem dX9_rest_44 : decode cX9_rest 44 = .ok (.iconst 2, 1) := by decide +kernel
theorem dX9_rest_45 : decode cX9_rest 45 = .ok (.goto 4, 3) := by decide +kernel
theorem dX9_rest_48 : decode cX9_rest 48 = .ok (.iconst 0, 1) := by decide +kernel
theorem dX9_rest_49 : decode cX9_rest 49 = .ok (.putfield 174, 3) := by decide +kernel
theorem dX9_rest_52 : decode cX9_rest 52 = .ok (.aload_n 0, 1) := by decide +kernel
theorem dX9_rest_53 : decode cX9_rest 53 = .ok (.getfield 174, 3) := by decide +kernel
theorem dX9_rest_56 : decode cX9_rest 56 = .ok (.ifCond .le 5, 3) := by decide +kernel
theorem dX9_rest_59 : decode cX9_rest 59 = .ok (.iconst 0, 1) := by decide +kernel
theorem dX9_rest_60 : decode cX9_rest 60 = .ok (.ireturn, 1) := by decide +kernel
theorem dX9_rest_61 : decode cX9_rest 61 = .ok (.aload_n 0, 1) := by decide +kernel
theorem dX9_rest_62 : decode cX9_rest 62 = .ok (.getfield 72, 3) := by decide +kernel
theorem dX9_rest_65 : decode cX9_rest 65 = .ok (.iload_n 1, 1) := by decide +kernel
theorem dX9_rest_66 : decode cX9_rest 66 = .ok (.aload_n 0, 1) := by decide +kernel
theorem dX9_rest_67 : decode cX9_rest 67 = .ok (.getfield 187, 3) := by decide +kernel
theorem dX9_rest_70 : decode cX9_rest 70 = .ok (.sipush 480, 3) := by decide +kernel
theorem dX9_rest_73 : decode cX9_rest 73 = .ok (.iadd, 1) := by decide +kernel
theorem dX9_rest_74 : decode cX9_rest 74 = .ok (.iastore, 1) := by decide +kernel
theorem dX9_rest_75 : decode cX9_rest 75 = .ok (.aload_n 0, 1) := by decide +kernel
theorem dX9_rest_76 : decode cX9_rest 76 = .ok (.getfield 69, 3) := by decide +kernel
theorem dX9_rest_79 : decode cX9_rest 79 = .ok (.iload_n 1, 1) := by decide +kernel
theorem dX9_rest_80 : decode cX9_rest 80 = .ok (.iconst 0, 1) := by decide +kernel
theorem dX9_rest_81 : decode cX9_rest 81 = .ok (.iastore, 1) := by decide +kernel
theorem dX9_rest_82 : decode cX9_rest 82 = .ok (.aload_n 0, 1) := by decide +kernel
theorem dX9_rest_83 : decode cX9_rest 83 = .ok (.getfield 72, 3) := by decide +kernel
theorem dX9_rest_86 : decode cX9_rest 86 = .ok (.iload_n 1, 1) := by decide +kernel
theorem dX9_rest_87 : decode cX9_rest 87 = .ok (.iaload, 1) := by decide +kernel
theorem dX9_rest_88 : decode cX9_rest 88 = .ok (.ireturn, 1) := by decide +kernel
theorem dX9_car_0 : decode cX9_car 0 = .ok (.aload_n 0, 1) := by decide +kernel
theorem dX9_car_1 : decode cX9_car 1 = .ok (.iload_n 1, 1) := by decide +kernel
theorem dX9_car_2 : decode cX9_car 2 = .ok (.invokestatic 193, 3) := by decide +kernel
theorem dX9_car_5 : decode cX9_car 5 = .ok (.ifCond .ne 7, 3) := by decide +kernel
theorem dX9_car_8 : decode cX9_car 8 = .ok (.iconst 1, 1) := by decide +kernel
theorem dX9_car_9 : decode cX9_car 9 = .ok (.goto 17, 3) := by decide +kernel
theorem dX9_car_12 : decode cX9_car 12 = .ok (.aload_n 0, 1) := by decide +kernel
theorem dX9_car_13 : decode cX9_car 13 = .ok (.getfield 184, 3) := by decide +kernel
theorem dX9_car_16 : decode cX9_car 16 = .ok (.bipush 20, 2) := by decide +kernel
theorem dX9_car_18 : decode cX9_car 18 = .ok (.if_icmp .ne 7, 3) := by decide +kernel
theorem dX9_car_21 : decode cX9_car 21 = .ok (.iconst 2, 1) := by decide +kernel
theorem dX9_car_22 : decode cX9_car 22 = .ok (.goto 4, 3) := by decide +kernel
theorem dX9_car_25 : decode cX9_car 25 = .ok (.iconst 0, 1) := by decide +kernel
theorem dX9_car_26 : decode cX9_car 26 = .ok (.putfield 174, 3) := by decide +kernel
theorem dX9_car_29 : decode cX9_car 29 = .ok (.aload_n 0, 1) := by decide +kernel
theorem dX9_car_30 : decode cX9_car 30 = .ok (.getfield 174, 3) := by decide +kernel
theorem dX9_car_33 : decode cX9_car 33 = .ok (.ifCond .le 5, 3) := by decide +kernel
theorem dX9_car_36 : decode cX9_car 36 = .ok (.iconst 0, 1) := by decide +kernel
theorem dX9_car_37 : decode cX9_car 37 = .ok (.ireturn, 1) := by decide +kernel
theorem dX9_car_38 : decode cX9_car 38 = .ok (.aload_n 0, 1) := by decide +kernel
theorem dX9_car_39 : decode cX9_car 39 = .ok (.getfield 184, 3) := by decide +kernel
theorem dX9_car_42 : decode cX9_car 42 = .ok (.istore_n 2, 1) := by decide +kernel
theorem dX9_car_43 : decode cX9_car 43 = .ok (.aload_n 0, 1) := by decide +kernel
theorem dX9_car_44 : decode cX9_car 44 = .ok (.dup, 1) := by decide +kernel
theorem dX9_car_45 : decode cX9_car 45 = .ok (.getfield 184, 3) := by decide +kernel
theorem dX9_car_48 : decode cX9_car 48 = .ok (.iconst 1, 1) := by decide +kernel
theorem dX9_car_49 : decode cX9_car 49 = .ok (.iadd, 1) := by decide +kernel
theorem dX9_car_50 : decode cX9_car 50 = .ok (.putfield 184, 3) := by decide +kernel
theorem dX9_car_53 : decode cX9_car 53 = .ok (.aload_n 0, 1) := by decide +kernel
theorem dX9_car_54 : decode cX9_car 54 = .ok (.getfield 78, 3) := by decide +kernel
theorem dX9_car_57 : decode cX9_car 57 = .ok (.iload_n 2, 1) := by decide +kernel
theorem dX9_car_58 : decode cX9_car 58 = .ok (.iload_n 1, 1) := by decide +kernel
theorem dX9_car_59 : decode cX9_car 59 = .ok (.iastore, 1) := by decide +kernel
theorem dX9_car_60 : decode cX9_car 60 = .ok (.aload_n 0, 1) := by decide +kernel
theorem dX9_car_61 : decode cX9_car 61 = .ok (.getfield 87, 3) := by decide +kernel
theorem dX9_car_64 : decode cX9_car 64 = .ok (.iload_n 2, 1) := by decide +kernel
theorem dX9_car_65 : decode cX9_car 65 = .ok (.iconst (-1), 1) := by decide +kernel
theorem dX9_car_66 : decode cX9_car 66 = .ok (.iastore, 1) := by decide +kernel
theorem dX9_car_67 : decode cX9_car 67 = .ok (.aload_n 0, 1) := by decide +kernel
theorem dX9_car_68 : decode cX9_car 68 = .ok (.dup, 1) := by decide +kernel
theorem dX9_car_69 : decode cX9_car 69 = .ok (.getfield 7, 3) := by decide +kernel
theorem dX9_car_72 : decode cX9_car 72 = .ok (.bipush 50, 2) := by decide +kernel
theorem dX9_car_74 : decode cX9_car 74 = .ok (.isub, 1) := by decide +kernel
theorem dX9_car_75 : decode cX9_car 75 = .ok (.putfield 7, 3) := by decide +kernel
theorem dX9_car_78 : decode cX9_car 78 = .ok (.aload_n 0, 1) := by decide +kernel
theorem dX9_car_79 : decode cX9_car 79 = .ok (.iload_n 2, 1) := by decide +kernel
theorem dX9_car_80 : decode cX9_car 80 = .ok (.iload_n 1, 1) := by decide +kernel
theorem dX9_car_81 : decode cX9_car 81 = .ok (.invokevirtual 222, 3) := by decide +kernel
theorem dX9_car_84 : decode cX9_car 84 = .ok (.iload_n 2, 1) := by decide +kernel
theorem dX9_car_85 : decode cX9_car 85 = .ok (.ireturn, 1) := by decide +kernel
theorem dX9_comes_0 : decode cX9_comes 0 = .ok (.aload_n 0, 1) := by decide +kernel
theorem dX9_comes_1 : decode cX9_comes 1 = .ok (.getfield 84, 3) := by decide +kernel
theorem dX9_comes_4 : decode cX9_comes 4 = .ok (.iload_n 1, 1) := by decide +kernel
theorem dX9_comes_5 : decode cX9_comes 5 = .ok (.iconst (-1), 1) := by decide +kernel
theorem dX9_comes_6 : decode cX9_comes 6 = .ok (.iastore, 1) := by decide +kernel
theorem dX9_comes_7 : decode cX9_comes 7 = .ok (.aload_n 0, 1) := by decide +kernel
theorem dX9_comes_8 : decode cX9_comes 8 = .ok (.getfield 81, 3) := by decide +kernel
theorem dX9_comes_11 : decode cX9_comes 11 = .ok (.iload_n 1, 1) := by decide +kernel
theorem dX9_comes_12 : decode cX9_comes 12 = .ok (.iload_n 2, 1) := by decide +kernel
theorem dX9_comes_13 : decode cX9_comes 13 = .ok (.iastore, 1) := by decide +kernel
theorem dX9_comes_14 : decode cX9_comes 14 = .ok (.aload_n 0, 1) := by decide +kernel
theorem dX9_comes_15 : decode cX9_comes 15 = .ok (.getfield 90, 3) := by decide +kernel
theorem dX9_comes_18 : decode cX9_comes 18 = .ok (.bipush 20, 2) := by decide +kernel
theorem dX9_comes_20 : decode cX9_comes 20 = .ok (.iload_n 2, 1) := by decide +kernel
theorem dX9_comes_21 : decode cX9_comes 21 = .ok (.imul, 1) := by decide +kernel
theorem dX9_comes_22 : decode cX9_comes 22 = .ok (.aload_n 0, 1) := by decide +kernel
theorem dX9_comes_23 : decode cX9_comes 23 = .ok (.getfield 93, 3) := by decide +kernel
theorem dX9_comes_26 : decode cX9_comes 26 = .ok (.iload_n 2, 1) := by decide +kernel
theorem dX9_comes_27 : decode cX9_comes 27 = .ok (.iaload, 1) := by decide +kernel
theorem dX9_comes_28 : decode cX9_comes 28 = .ok (.iadd, 1) := by decide +kernel
theorem dX9_comes_29 : decode cX9_comes 29 = .ok (.iload_n 1, 1) := by decide +kernel
theorem dX9_comes_30 : decode cX9_comes 30 = .ok (.iastore, 1) := by decide +kernel
theorem dX9_comes_31 : decode cX9_comes 31 = .ok (.aload_n 0, 1) := by decide +kernel
theorem dX9_comes_32 : decode cX9_comes 32 = .ok (.getfield 93, 3) := by decide +kernel
theorem dX9_comes_35 : decode cX9_comes 35 = .ok (.iload_n 2, 1) := by decide +kernel
theorem dX9_comes_36 : decode cX9_comes 36 = .ok (.dup2, 1) := by decide +kernel
theorem dX9_comes_37 : decode cX9_comes 37 = .ok (.iaload, 1) := by decide +kernel
theorem dX9_comes_38 : decode cX9_comes 38 = .ok (.iconst 1, 1) := by decide +kernel
theorem dX9_comes_39 : decode cX9_comes 39 = .ok (.iadd, 1) := by decide +kernel
theorem dX9_comes_40 : decode cX9_comes 40 = .ok (.iastore, 1) := by decide +kernel
theorem dX9_comes_41 : decode cX9_comes 41 = .ok (.aload_n 0, 1) := by decide +kernel
theorem dX9_comes_42 : decode cX9_comes 42 = .ok (.iload_n 1, 1) := by decide +kernel
theorem dX9_comes_43 : decode cX9_comes 43 = .ok (.iconst 0, 1) := by decide +kernel
theorem dX9_comes_44 : decode cX9_comes 44 = .ok (.iload_n 2, 1) := by decide +kernel
theorem dX9_comes_45 : decode cX9_comes 45 = .ok (.invokevirtual 226, 3) := by decide +kernel
theorem dX9_comes_48 : decode cX9_comes 48 = .ok (.return_, 1) := by decide +kernel
theorem dX9_borrow_0 : decode cX9_borrow 0 = .ok (.aload_n 0, 1) := by decide +kernel
theorem dX9_borrow_1 : decode cX9_borrow 1 = .ok (.iload_n 1, 1) := by decide +kernel
theorem dX9_borrow_2 : decode cX9_borrow 2 = .ok (.iconst 1, 1) := by decide +kernel
theorem dX9_borrow_3 : decode cX9_borrow 3 = .ok (.sipush 20000, 3) := by decide +kernel
theorem dX9_borrow_6 : decode cX9_borrow 6 = .ok (.invokestatic 177, 3) := by decide +kernel
theorem dX9_borrow_9 : decode cX9_borrow 9 = .ok (.ifCond .ne 7, 3) := by decide +kernel
theorem dX9_borrow_12 : decode cX9_borrow 12 = .ok (.iconst 1, 1) := by decide +kernel
theorem dX9_borrow_13 : decode cX9_borrow 13 = .ok (.goto 19, 3) := by decide +kernel
theorem dX9_borrow_16 : decode cX9_borrow 16 = .ok (.aload_n 0, 1) := by decide +kernel
theorem dX9_borrow_17 : decode cX9_borrow 17 = .ok (.getfield 230, 3) := by decide +kernel
theorem dX9_borrow_20 : decode cX9_borrow 20 = .ok (.iload_n 1, 1) := by decide +kernel
theorem dX9_borrow_21 : decode cX9_borrow 21 = .ok (.iadd, 1) := by decide +kernel
theorem dX9_borrow_22 : decode cX9_borrow 22 = .ok (.ldc 233, 2) := by decide +kernel
theorem dX9_borrow_24 : decode cX9_borrow 24 = .ok (.if_icmp .le 7, 3) := by decide +kernel
theorem dX9_borrow_27 : decode cX9_borrow 27 = .ok (.iconst 2, 1) := by decide +kernel
theorem dX9_borrow_28 : decode cX9_borrow 28 = .ok (.goto 4, 3) := by decide +kernel
theorem dX9_borrow_31 : decode cX9_borrow 31 = .ok (.iconst 0, 1) := by decide +kernel
theorem dX9_borrow_32 : decode cX9_borrow 32 = .ok (.putfield 174, 3) := by decide +kernel
theorem dX9_borrow_35 : decode cX9_borrow 35 = .ok (.aload_n 0, 1) := by decide +kernel
theorem dX9_borrow_36 : decode cX9_borrow 36 = .ok (.getfield 174, 3) := by decide +kernel
theorem dX9_borrow_39 : decode cX9_borrow 39 = .ok (.ifCond .le 5, 3) := by decide +kernel
theorem dX9_borrow_42 : decode cX9_borrow 42 = .ok (.iconst 0, 1) := by decide +kernel
theorem dX9_borrow_43 : decode cX9_borrow 43 = .ok (.ireturn, 1) := by decide +kernel
theorem dX9_borrow_44 : decode cX9_borrow 44 = .ok (.aload_n 0, 1) := by decide +kernel
theorem dX9_borrow_45 : decode cX9_borrow 45 = .ok (.dup, 1) := by decide +kernel
theorem dX9_borrow_46 : decode cX9_borrow 46 = .ok (.getfield 7, 3) := by decide +kernel
theorem dX9_borrow_49 : decode cX9_borrow 49 = .ok (.iload_n 1, 1) := by decide +kernel
theorem dX9_borrow_50 : decode cX9_borrow 50 = .ok (.iadd, 1) := by decide +kernel
theorem dX9_borrow_51 : decode cX9_borrow 51 = .ok (.putfield 7, 3) := by decide +kernel
theorem dX9_borrow_54 : decode cX9_borrow 54 = .ok (.aload_n 0, 1) := by decide +kernel
theorem dX9_borrow_55 : decode cX9_borrow 55 = .ok (.dup, 1) := by decide +kernel
theorem dX9_borrow_56 : decode cX9_borrow 56 = .ok (.getfield 230, 3) := by decide +kernel
theorem dX9_borrow_59 : decode cX9_borrow 59 = .ok (.iload_n 1, 1) := by decide +kernel
theorem dX9_borrow_60 : decode cX9_borrow 60 = .ok (.iadd, 1) := by decide +kernel
theorem dX9_borrow_61 : decode cX9_borrow 61 = .ok (.putfield 230, 3) := by decide +kernel
theorem dX9_borrow_64 : decode cX9_borrow 64 = .ok (.aload_n 0, 1) := by decide +kernel
theorem dX9_borrow_65 : decode cX9_borrow 65 = .ok (.getfield 230, 3) := by decide +kernel
theorem dX9_borrow_68 : decode cX9_borrow 68 = .ok (.ireturn, 1) := by decide +kernel
theorem dX9_repay_0 : decode cX9_repay 0 = .ok (.aload_n 0, 1) := by decide +kernel
theorem dX9_repay_1 : decode cX9_repay 1 = .ok (.iload_n 1, 1) := by decide +kernel
theorem dX9_repay_2 : decode cX9_repay 2 = .ok (.iconst 1, 1) := by decide +kernel
theorem dX9_repay_3 : decode cX9_repay 3 = .ok (.ldc 233, 2) := by decide +kernel
theorem dX9_repay_5 : decode cX9_repay 5 = .ok (.invokestatic 177, 3) := by decide +kernel
theorem dX9_repay_8 : decode cX9_repay 8 = .ok (.ifCond .ne 7, 3) := by decide +kernel
theorem dX9_repay_11 : decode cX9_repay 11 = .ok (.iconst 1, 1) := by decide +kernel
theorem dX9_repay_12 : decode cX9_repay 12 = .ok (.goto 24, 3) := by decide +kernel
theorem dX9_repay_15 : decode cX9_repay 15 = .ok (.iload_n 1, 1) := by decide +kernel
theorem dX9_repay_16 : decode cX9_repay 16 = .ok (.aload_n 0, 1) := by decide +kernel
theorem dX9_repay_17 : decode cX9_repay 17 = .ok (.getfield 230, 3) := by decide +kernel
theorem dX9_repay_20 : decode cX9_repay 20 = .ok (.if_icmp .gt 11, 3) := by decide +kernel
theorem dX9_repay_23 : decode cX9_repay 23 = .ok (.iload_n 1, 1) := by decide +kernel
theorem dX9_repay_24 : decode cX9_repay 24 = .ok (.aload_n 0, 1) := by decide +kernel
theorem dX9_repay_25 : decode cX9_repay 25 = .ok (.getfield 7, 3) := by decide +kernel
theorem dX9_repay_28 : decode cX9_repay 28 = .ok (.if_icmp .le 7, 3) := by decide +kernel
theorem dX9_repay_31 : decode cX9_repay 31 = .ok (.iconst 2, 1) := by decide +kernel
theorem dX9_repay_32 : decode cX9_repay 32 = .ok (.goto 4, 3) := by decide +kernel
theorem dX9_repay_35 : decode cX9_repay 35 = .ok (.iconst 0, 1) := by decide +kernel
theorem dX9_repay_36 : decode cX9_repay 36 = .ok (.putfield 174, 3) := by decide +kernel
theorem dX9_repay_39 : decode cX9_repay 39 = .ok (.aload_n 0, 1) := by decide +kernel
theorem dX9_repay_40 : decode cX9_repay 40 = .ok (.getfield 174, 3) := by decide +kernel
theorem dX9_repay_43 : decode cX9_repay 43 = .ok (.ifCond .le 5, 3) := by decide +kernel
theorem dX9_repay_46 : decode cX9_repay 46 = .ok (.iconst 0, 1) := by decide +kernel
theorem dX9_repay_47 : decode cX9_repay 47 = .ok (.ireturn, 1) := by decide +kernel
theorem dX9_repay_48 : decode cX9_repay 48 = .ok (.aload_n 0, 1) := by decide +kernel
theorem dX9_repay_49 : decode cX9_repay 49 = .ok (.dup, 1) := by decide +kernel
theorem dX9_repay_50 : decode cX9_repay 50 = .ok (.getfield 7, 3) := by decide +kernel
theorem dX9_repay_53 : decode cX9_repay 53 = .ok (.iload_n 1, 1) := by decide +kernel
theorem dX9_repay_54 : decode cX9_repay 54 = .ok (.isub, 1) := by decide +kernel
theorem dX9_repay_55 : decode cX9_repay 55 = .ok (.putfield 7, 3) := by decide +kernel
theorem dX9_repay_58 : decode cX9_repay 58 = .ok (.aload_n 0, 1) := by decide +kernel
theorem dX9_repay_59 : decode cX9_repay 59 = .ok (.dup, 1) := by decide +kernel
theorem dX9_repay_60 : decode cX9_repay 60 = .ok (.getfield 230, 3) := by decide +kernel
theorem dX9_repay_63 : decode cX9_repay 63 = .ok (.iload_n 1, 1) := by decide +kernel
theorem dX9_repay_64 : decode cX9_repay 64 = .ok (.isub, 1) := by decide +kernel
theorem dX9_repay_65 : decode cX9_repay 65 = .ok (.putfield 230, 3) := by decide +kernel
theorem dX9_repay_68 : decode cX9_repay 68 = .ok (.aload_n 0, 1) := by decide +kernel
theorem dX9_repay_69 : decode cX9_repay 69 = .ok (.getfield 230, 3) := by decide +kernel
theorem dX9_repay_72 : decode cX9_repay 72 = .ok (.ireturn, 1) := by decide +kernel
theorem dX9_form_0 : decode cX9_form 0 = .ok (.aload_n 0, 1) := by decide +kernel
theorem dX9_form_1 : decode cX9_form 1 = .ok (.iload_n 1, 1) := by decide +kernel
theorem dX9_form_2 : decode cX9_form 2 = .ok (.iconst 0, 1) := by decide +kernel
theorem dX9_form_3 : decode cX9_form 3 = .ok (.aload_n 0, 1) := by decide +kernel
theorem dX9_form_4 : decode cX9_form 4 = .ok (.getfield 207, 3) := by decide +kernel
theorem dX9_form_7 : decode cX9_form 7 = .ok (.iconst 1, 1) := by decide +kernel
theorem dX9_form_8 : decode cX9_form 8 = .ok (.isub, 1) := by decide +kernel
theorem dX9_form_9 : decode cX9_form 9 = .ok (.invokestatic 177, 3) := by decide +kernel
theorem dX9_form_12 : decode cX9_form 12 = .ok (.ifCond .eq 15, 3) := by decide +kernel
theorem dX9_form_15 : decode cX9_form 15 = .ok (.aload_n 0, 1) := by decide +kernel
theorem dX9_form_16 : decode cX9_form 16 = .ok (.iload_n 2, 1) := by decide +kernel
theorem dX9_form_17 : decode cX9_form 17 = .ok (.invokevirtual 213, 3) := by decide +kernel
theorem dX9_form_20 : decode cX9_form 20 = .ok (.ifCond .eq 7, 3) := by decide +kernel
theorem dX9_form_23 : decode cX9_form 23 = .ok (.iconst 0, 1) := by decide +kernel
theorem dX9_form_24 : decode cX9_form 24 = .ok (.goto 4, 3) := by decide +kernel
theorem dX9_form_27 : decode cX9_form 27 = .ok (.iconst 1, 1) := by decide +kernel
theorem dX9_form_28 : decode cX9_form 28 = .ok (.putfield 174, 3) := by decide +kernel
theorem dX9_form_31 : decode cX9_form 31 = .ok (.aload_n 0, 1) := by decide +kernel
theorem dX9_form_32 : decode cX9_form 32 = .ok (.getfield 174, 3) := by decide +kernel
theorem dX9_form_35 : decode cX9_form 35 = .ok (.ifCond .le 5, 3) := by decide +kernel
theorem dX9_form_38 : decode cX9_form 38 = .ok (.iconst 0, 1) := by decide +kernel
theorem dX9_form_39 : decode cX9_form 39 = .ok (.ireturn, 1) := by decide +kernel
theorem dX9_form_40 : decode cX9_form 40 = .ok (.iconst 0, 1) := by decide +kernel
theorem dX9_form_41 : decode cX9_form 41 = .ok (.istore_n 3, 1) := by decide +kernel
theorem dX9_form_42 : decode cX9_form 42 = .ok (.iload_n 3, 1) := by decide +kernel
theorem dX9_form_43 : decode cX9_form 43 = .ok (.bipush 6, 2) := by decide +kernel
theorem dX9_form_45 : decode cX9_form 45 = .ok (.if_icmp .ge 18, 3) := by decide +kernel
theorem dX9_form_48 : decode cX9_form 48 = .ok (.aload_n 0, 1) := by decide +kernel
theorem dX9_form_49 : decode cX9_form 49 = .ok (.getfield 96, 3) := by decide +kernel
theorem dX9_form_52 : decode cX9_form 52 = .ok (.iload_n 3, 1) := by decide +kernel
theorem dX9_form_53 : decode cX9_form 53 = .ok (.baload, 1) := by decide +kernel
theorem dX9_form_54 : decode cX9_form 54 = .ok (.ifCond .eq 9, 3) := by decide +kernel
theorem dX9_form_57 : decode cX9_form 57 = .ok (.iinc 3 1, 3) := by decide +kernel
theorem dX9_form_60 : decode cX9_form 60 = .ok (.goto (-18), 3) := by decide +kernel
theorem dX9_form_63 : decode cX9_form 63 = .ok (.iload_n 3, 1) := by decide +kernel
theorem dX9_form_64 : decode cX9_form 64 = .ok (.bipush 6, 2) := by decide +kernel
theorem dX9_form_66 : decode cX9_form 66 = .ok (.if_icmp .ge 74, 3) := by decide +kernel
theorem dX9_form_69 : decode cX9_form 69 = .ok (.aload_n 0, 1) := by decide +kernel
theorem dX9_form_70 : decode cX9_form 70 = .ok (.getfield 60, 3) := by decide +kernel
theorem dX9_form_73 : decode cX9_form 73 = .ok (.iload_n 1, 1) := by decide +kernel
theorem dX9_form_74 : decode cX9_form 74 = .ok (.iaload, 1) := by decide +kernel
theorem dX9_form_75 : decode cX9_form 75 = .ok (.iconst (-1), 1) := by decide +kernel
theorem dX9_form_76 : decode cX9_form 76 = .ok (.if_icmp .ne 64, 3) := by decide +kernel
theorem dX9_form_79 : decode cX9_form 79 = .ok (.aload_n 0, 1) := by decide +kernel
theorem dX9_form_80 : decode cX9_form 80 = .ok (.getfield 66, 3) := by decide +kernel
theorem dX9_form_83 : decode cX9_form 83 = .ok (.iload_n 2, 1) := by decide +kernel
theorem dX9_form_84 : decode cX9_form 84 = .ok (.iaload, 1) := by decide +kernel
theorem dX9_form_85 : decode cX9_form 85 = .ok (.iconst (-1), 1) := by decide +kernel
theorem dX9_form_86 : decode cX9_form 86 = .ok (.if_icmp .ne 54, 3) := by decide +kernel
theorem dX9_form_89 : decode cX9_form 89 = .ok (.aload_n 0, 1) := by decide +kernel
theorem dX9_form_90 : decode cX9_form 90 = .ok (.getfield 57, 3) := by decide +kernel
theorem dX9_form_93 : decode cX9_form 93 = .ok (.iload_n 1, 1) := by decide +kernel
theorem dX9_form_94 : decode cX9_form 94 = .ok (.iaload, 1) := by decide +kernel
theorem dX9_form_95 : decode cX9_form 95 = .ok (.aload_n 0, 1) := by decide +kernel
theorem dX9_form_96 : decode cX9_form 96 = .ok (.getfield 63, 3) := by decide +kernel
theorem dX9_form_99 : decode cX9_form 99 = .ok (.iload_n 2, 1) := by decide +kernel
theorem dX9_form_100 : decode cX9_form 100 = .ok (.iaload, 1) := by decide +kernel
theorem dX9_form_101 : decode cX9_form 101 = .ok (.if_icmp .ne 39, 3) := by decide +kernel
theorem dX9_form_104 : decode cX9_form 104 = .ok (.aload_n 0, 1) := by decide +kernel
theorem dX9_form_105 : decode cX9_form 105 = .ok (.iload_n 2, 1) := by decide +kernel
theorem dX9_form_106 : decode cX9_form 106 = .ok (.invokevirtual 216, 3) := by decide +kernel
theorem dX9_form_109 : decode cX9_form 109 = .ok (.ifCond .ne 31, 3) := by decide +kernel
theorem dX9_form_112 : decode cX9_form 112 = .ok (.aload_n 0, 1) := by decide +kernel
theorem dX9_form_113 : decode cX9_form 113 = .ok (.aload_n 0, 1) := by decide +kernel
theorem dX9_form_114 : decode cX9_form 114 = .ok (.getfield 57, 3) := by decide +kernel
theorem dX9_form_117 : decode cX9_form 117 = .ok (.iload_n 1, 1) := by decide +kernel
theorem dX9_form_118 : decode cX9_form 118 = .ok (.iaload, 1) := by decide +kernel
theorem dX9_form_119 : decode cX9_form 119 = .ok (.invokevirtual 197, 3) := by decide +kernel
theorem dX9_form_122 : decode cX9_form 122 = .ok (.aload_n 0, 1) := by decide +kernel
theorem dX9_form_123 : decode cX9_form 123 = .ok (.getfield 13, 3) := by decide +kernel
theorem dX9_form_126 : decode cX9_form 126 = .ok (.aload_n 0, 1) := by decide +kernel
theorem dX9_form_127 : decode cX9_form 127 = .ok (.getfield 57, 3) := by decide +kernel
theorem dX9_form_130 : decode cX9_form 130 = .ok (.iload_n 1, 1) := by decide +kernel
theorem dX9_form_131 : decode cX9_form 131 = .ok (.iaload, 1) := by decide +kernel
theorem dX9_form_132 : decode cX9_form 132 = .ok (.iaload, 1) := by decide +kernel
theorem dX9_form_133 : decode cX9_form 133 = .ok (.if_icmp .ge 7, 3) := by decide +kernel
theorem dX9_form_136 : decode cX9_form 136 = .ok (.iconst 1, 1) := by decide +kernel
theorem dX9_form_137 : decode cX9_form 137 = .ok (.goto 4, 3) := by decide +kernel
theorem dX9_form_140 : decode cX9_form 140 = .ok (.iconst 0, 1) := by decide +kernel
theorem dX9_form_141 : decode cX9_form 141 = .ok (.istore 4, 2) := by decide +kernel
theorem dX9_form_143 : decode cX9_form 143 = .ok (.iload 4, 2) := by decide +kernel
theorem dX9_form_145 : decode cX9_form 145 = .ok (.ifCond .ne 9, 3) := by decide +kernel
theorem dX9_form_148 : decode cX9_form 148 = .ok (.aload_n 0, 1) := by decide +kernel
theorem dX9_form_149 : decode cX9_form 149 = .ok (.iconst 2, 1) := by decide +kernel
theorem dX9_form_150 : decode cX9_form 150 = .ok (.invokevirtual 234, 3) := by decide +kernel
theorem dX9_form_153 : decode cX9_form 153 = .ok (.ireturn, 1) := by decide +kernel
theorem dX9_form_154 : decode cX9_form 154 = .ok (.aload_n 0, 1) := by decide +kernel
theorem dX9_form_155 : decode cX9_form 155 = .ok (.getfield 96, 3) := by decide +kernel
theorem dX9_form_158 : decode cX9_form 158 = .ok (.iload_n 3, 1) := by decide +kernel
theorem dX9_form_159 : decode cX9_form 159 = .ok (.iconst 1, 1) := by decide +kernel
theorem dX9_form_160 : decode cX9_form 160 = .ok (.bastore, 1) := by decide +kernel
theorem dX9_form_161 : decode cX9_form 161 = .ok (.aload_n 0, 1) := by decide +kernel
theorem dX9_form_162 : decode cX9_form 162 = .ok (.getfield 99, 3) := by decide +kernel
theorem dX9_form_165 : decode cX9_form 165 = .ok (.iload_n 3, 1) := by decide +kernel
theorem dX9_form_166 : decode cX9_form 166 = .ok (.iload_n 1, 1) := by decide +kernel
theorem dX9_form_167 : decode cX9_form 167 = .ok (.iastore, 1) := by decide +kernel
theorem dX9_form_168 : decode cX9_form 168 = .ok (.aload_n 0, 1) := by decide +kernel
theorem dX9_form_169 : decode cX9_form 169 = .ok (.getfield 102, 3) := by decide +kernel
theorem dX9_form_172 : decode cX9_form 172 = .ok (.iload_n 3, 1) := by decide +kernel
theorem dX9_form_173 : decode cX9_form 173 = .ok (.iload_n 2, 1) := by decide +kernel
theorem dX9_form_174 : decode cX9_form 174 = .ok (.iastore, 1) := by decide +kernel
theorem dX9_form_175 : decode cX9_form 175 = .ok (.aload_n 0, 1) := by decide +kernel
theorem dX9_form_176 : decode cX9_form 176 = .ok (.getfield 60, 3) := by decide +kernel
theorem dX9_form_179 : decode cX9_form 179 = .ok (.iload_n 1, 1) := by decide +kernel
theorem dX9_form_180 : decode cX9_form 180 = .ok (.iload_n 3, 1) := by decide +kernel
theorem dX9_form_181 : decode cX9_form 181 = .ok (.iastore, 1) := by decide +kernel
theorem dX9_form_182 : decode cX9_form 182 = .ok (.aload_n 0, 1) := by decide +kernel
theorem dX9_form_183 : decode cX9_form 183 = .ok (.getfield 66, 3) := by decide +kernel
theorem dX9_form_186 : decode cX9_form 186 = .ok (.iload_n 2, 1) := by decide +kernel
theorem dX9_form_187 : decode cX9_form 187 = .ok (.iload_n 3, 1) := by decide +kernel
theorem dX9_form_188 : decode cX9_form 188 = .ok (.iastore, 1) := by decide +kernel
theorem dX9_form_189 : decode cX9_form 189 = .ok (.aload_n 0, 1) := by decide +kernel
theorem dX9_form_190 : decode cX9_form 190 = .ok (.getfield 105, 3) := by decide +kernel
theorem dX9_form_193 : decode cX9_form 193 = .ok (.iload_n 3, 1) := by decide +kernel
theorem dX9_form_194 : decode cX9_form 194 = .ok (.iconst 0, 1) := by decide +kernel
theorem dX9_form_195 : decode cX9_form 195 = .ok (.iastore, 1) := by decide +kernel
theorem dX9_form_196 : decode cX9_form 196 = .ok (.aload_n 0, 1) := by decide +kernel
theorem dX9_form_197 : decode cX9_form 197 = .ok (.getfield 108, 3) := by decide +kernel
theorem dX9_form_200 : decode cX9_form 200 = .ok (.iload_n 3, 1) := by decide +kernel
theorem dX9_form_201 : decode cX9_form 201 = .ok (.aload_n 0, 1) := by decide +kernel
theorem dX9_form_202 : decode cX9_form 202 = .ok (.getfield 57, 3) := by decide +kernel
theorem dX9_form_205 : decode cX9_form 205 = .ok (.iload_n 1, 1) := by decide +kernel
theorem dX9_form_206 : decode cX9_form 206 = .ok (.iaload, 1) := by decide +kernel
theorem dX9_form_207 : decode cX9_form 207 = .ok (.iastore, 1) := by decide +kernel
theorem dX9_form_208 : decode cX9_form 208 = .ok (.aload_n 0, 1) := by decide +kernel
theorem dX9_form_209 : decode cX9_form 209 = .ok (.getfield 111, 3) := by decide +kernel
theorem dX9_form_212 : decode cX9_form 212 = .ok (.iload_n 3, 1) := by decide +kernel
theorem dX9_form_213 : decode cX9_form 213 = .ok (.iconst (-1), 1) := by decide +kernel
theorem dX9_form_214 : decode cX9_form 214 = .ok (.iastore, 1) := by decide +kernel
theorem dX9_form_215 : decode cX9_form 215 = .ok (.aload_n 0, 1) := by decide +kernel
theorem dX9_form_216 : decode cX9_form 216 = .ok (.getfield 120, 3) := by decide +kernel
theorem dX9_form_219 : decode cX9_form 219 = .ok (.iload_n 3, 1) := by decide +kernel
theorem dX9_form_220 : decode cX9_form 220 = .ok (.iconst 0, 1) := by decide +kernel
theorem dX9_form_221 : decode cX9_form 221 = .ok (.iastore, 1) := by decide +kernel
theorem dX9_form_222 : decode cX9_form 222 = .ok (.aload_n 0, 1) := by decide +kernel
theorem dX9_form_223 : decode cX9_form 223 = .ok (.getfield 126, 3) := by decide +kernel
theorem dX9_form_226 : decode cX9_form 226 = .ok (.iload_n 3, 1) := by decide +kernel
theorem dX9_form_227 : decode cX9_form 227 = .ok (.iconst 0, 1) := by decide +kernel
theorem dX9_form_228 : decode cX9_form 228 = .ok (.iastore, 1) := by decide +kernel
theorem dX9_form_229 : decode cX9_form 229 = .ok (.aload_n 0, 1) := by decide +kernel
theorem dX9_form_230 : decode cX9_form 230 = .ok (.getfield 129, 3) := by decide +kernel
theorem dX9_form_233 : decode cX9_form 233 = .ok (.iload_n 3, 1) := by decide +kernel
theorem dX9_form_234 : decode cX9_form 234 = .ok (.iconst 0, 1) := by decide +kernel
theorem dX9_form_235 : decode cX9_form 235 = .ok (.iastore, 1) := by decide +kernel
theorem dX9_form_236 : decode cX9_form 236 = .ok (.aload_n 0, 1) := by decide +kernel
theorem dX9_form_237 : decode cX9_form 237 = .ok (.getfield 138, 3) := by decide +kernel
theorem dX9_form_240 : decode cX9_form 240 = .ok (.iload_n 3, 1) := by decide +kernel
theorem dX9_form_241 : decode cX9_form 241 = .ok (.iconst (-1), 1) := by decide +kernel
theorem dX9_form_242 : decode cX9_form 242 = .ok (.iastore, 1) := by decide +kernel
theorem dX9_form_243 : decode cX9_form 243 = .ok (.iload_n 3, 1) := by decide +kernel
theorem dX9_form_244 : decode cX9_form 244 = .ok (.ireturn, 1) := by decide +kernel
theorem dX9_holds_0 : decode cX9_holds 0 = .ok (.iconst 0, 1) := by decide +kernel
theorem dX9_holds_1 : decode cX9_holds 1 = .ok (.istore_n 2, 1) := by decide +kernel
theorem dX9_holds_2 : decode cX9_holds 2 = .ok (.iconst 0, 1) := by decide +kernel
theorem dX9_holds_3 : decode cX9_holds 3 = .ok (.istore_n 3, 1) := by decide +kernel
theorem dX9_holds_4 : decode cX9_holds 4 = .ok (.iload_n 3, 1) := by decide +kernel
theorem dX9_holds_5 : decode cX9_holds 5 = .ok (.aload_n 0, 1) := by decide +kernel
theorem dX9_holds_6 : decode cX9_holds 6 = .ok (.getfield 181, 3) := by decide +kernel
theorem dX9_holds_9 : decode cX9_holds 9 = .ok (.if_icmp .ge 29, 3) := by decide +kernel
theorem dX9_holds_12 : decode cX9_holds 12 = .ok (.iload_n 2, 1) := by decide +kernel
theorem dX9_holds_13 : decode cX9_holds 13 = .ok (.ifCond .ne 13, 3) := by decide +kernel
theorem dX9_holds_16 : decode cX9_holds 16 = .ok (.aload_n 0, 1) := by decide +kernel
theorem dX9_holds_17 : decode cX9_holds 17 = .ok (.getfield 48, 3) := by decide +kernel
theorem dX9_holds_20 : decode cX9_holds 20 = .ok (.iload_n 3, 1) := by decide +kernel
theorem dX9_holds_21 : decode cX9_holds 21 = .ok (.iaload, 1) := by decide +kernel
theorem dX9_holds_22 : decode cX9_holds 22 = .ok (.iload_n 1, 1) := by decide +kernel
theorem dX9_holds_23 : decode cX9_holds 23 = .ok (.if_icmp .ne 7, 3) := by decide +kernel
theorem dX9_holds_26 : decode cX9_holds 26 = .ok (.iconst 1, 1) := by decide +kernel
theorem dX9_holds_27 : decode cX9_holds 27 = .ok (.goto 4, 3) := by decide +kernel
theorem dX9_holds_30 : decode cX9_holds 30 = .ok (.iconst 0, 1) := by decide +kernel
theorem dX9_holds_31 : decode cX9_holds 31 = .ok (.istore_n 2, 1) := by decide +kernel
theorem dX9_holds_32 : decode cX9_holds 32 = .ok (.iinc 3 1, 3) := by decide +kernel
theorem dX9_holds_35 : decode cX9_holds 35 = .ok (.goto (-31), 3) := by decide +kernel
theorem dX9_holds_38 : decode cX9_holds 38 = .ok (.iload_n 2, 1) := by decide +kernel
theorem dX9_holds_39 : decode cX9_holds 39 = .ok (.ireturn, 1) := by decide +kernel
theorem dX9_ends_0 : decode cX9_ends 0 = .ok (.aload_n 0, 1) := by decide +kernel
theorem dX9_ends_1 : decode cX9_ends 1 = .ok (.getfield 96, 3) := by decide +kernel
theorem dX9_ends_4 : decode cX9_ends 4 = .ok (.iload_n 1, 1) := by decide +kernel
theorem dX9_ends_5 : decode cX9_ends 5 = .ok (.iconst 0, 1) := by decide +kernel
theorem dX9_ends_6 : decode cX9_ends 6 = .ok (.bastore, 1) := by decide +kernel
theorem dX9_ends_7 : decode cX9_ends 7 = .ok (.aload_n 0, 1) := by decide +kernel
theorem dX9_ends_8 : decode cX9_ends 8 = .ok (.getfield 60, 3) := by decide +kernel
theorem dX9_ends_11 : decode cX9_ends 11 = .ok (.aload_n 0, 1) := by decide +kernel
theorem dX9_ends_12 : decode cX9_ends 12 = .ok (.getfield 99, 3) := by decide +kernel
theorem dX9_ends_15 : decode cX9_ends 15 = .ok (.iload_n 1, 1) := by decide +kernel
theorem dX9_ends_16 : decode cX9_ends 16 = .ok (.iaload, 1) := by decide +kernel
theorem dX9_ends_17 : decode cX9_ends 17 = .ok (.iconst (-1), 1) := by decide +kernel
theorem dX9_ends_18 : decode cX9_ends 18 = .ok (.iastore, 1) := by decide +kernel
theorem dX9_ends_19 : decode cX9_ends 19 = .ok (.aload_n 0, 1) := by decide +kernel
theorem dX9_ends_20 : decode cX9_ends 20 = .ok (.getfield 57, 3) := by decide +kernel
theorem dX9_ends_23 : decode cX9_ends 23 = .ok (.aload_n 0, 1) := by decide +kernel
theorem dX9_ends_24 : decode cX9_ends 24 = .ok (.getfield 99, 3) := by decide +kernel
theorem dX9_ends_27 : decode cX9_ends 27 = .ok (.iload_n 1, 1) := by decide +kernel
theorem dX9_ends_28 : decode cX9_ends 28 = .ok (.iaload, 1) := by decide +kernel
theorem dX9_ends_29 : decode cX9_ends 29 = .ok (.iload_n 2, 1) := by decide +kernel
theorem dX9_ends_30 : decode cX9_ends 30 = .ok (.iastore, 1) := by decide +kernel
theorem dX9_ends_31 : decode cX9_ends 31 = .ok (.aload_n 0, 1) := by decide +kernel
theorem dX9_ends_32 : decode cX9_ends 32 = .ok (.getfield 66, 3) := by decide +kernel
theorem dX9_ends_35 : decode cX9_ends 35 = .ok (.aload_n 0, 1) := by decide +kernel
theorem dX9_ends_36 : decode cX9_ends 36 = .ok (.getfield 102, 3) := by decide +kernel
theorem dX9_ends_39 : decode cX9_ends 39 = .ok (.iload_n 1, 1) := by decide +kernel
theorem dX9_ends_40 : decode cX9_ends 40 = .ok (.iaload, 1) := by decide +kernel
theorem dX9_ends_41 : decode cX9_ends 41 = .ok (.iconst (-1), 1) := by decide +kernel
theorem dX9_ends_42 : decode cX9_ends 42 = .ok (.iastore, 1) := by decide +kernel
theorem dX9_ends_43 : decode cX9_ends 43 = .ok (.aload_n 0, 1) := by decide +kernel
theorem dX9_ends_44 : decode cX9_ends 44 = .ok (.getfield 63, 3) := by decide +kernel
theorem dX9_ends_47 : decode cX9_ends 47 = .ok (.aload_n 0, 1) := by decide +kernel
theorem dX9_ends_48 : decode cX9_ends 48 = .ok (.getfield 102, 3) := by decide +kernel
theorem dX9_ends_51 : decode cX9_ends 51 = .ok (.iload_n 1, 1) := by decide +kernel
theorem dX9_ends_52 : decode cX9_ends 52 = .ok (.iaload, 1) := by decide +kernel
theorem dX9_ends_53 : decode cX9_ends 53 = .ok (.iload_n 2, 1) := by decide +kernel
theorem dX9_ends_54 : decode cX9_ends 54 = .ok (.iastore, 1) := by decide +kernel
theorem dX9_ends_55 : decode cX9_ends 55 = .ok (.return_, 1) := by decide +kernel
theorem dX9_dissolve_0 : decode cX9_dissolve 0 = .ok (.aload_n 0, 1) := by decide +kernel
theorem dX9_dissolve_1 : decode cX9_dissolve 1 = .ok (.aload_n 0, 1) := by decide +kernel
theorem dX9_dissolve_2 : decode cX9_dissolve 2 = .ok (.iload_n 1, 1) := by decide +kernel
theorem dX9_dissolve_3 : decode cX9_dissolve 3 = .ok (.invokevirtual 237, 3) := by decide +kernel
theorem dX9_dissolve_6 : decode cX9_dissolve 6 = .ok (.ifCond .ne 7, 3) := by decide +kernel
theorem dX9_dissolve_9 : decode cX9_dissolve 9 = .ok (.iconst 1, 1) := by decide +kernel
theorem dX9_dissolve_10 : decode cX9_dissolve 10 = .ok (.goto 33, 3) := by decide +kernel
theorem dX9_dissolve_13 : decode cX9_dissolve 13 = .ok (.aload_n 0, 1) := by decide +kernel
theorem dX9_dissolve_14 : decode cX9_dissolve 14 = .ok (.iload_n 1, 1) := by decide +kernel
theorem dX9_dissolve_15 : decode cX9_dissolve 15 = .ok (.invokevirtual 219, 3) := by decide +kernel
theorem dX9_dissolve_18 : decode cX9_dissolve 18 = .ok (.ifCond .eq 20, 3) := by decide +kernel
theorem dX9_dissolve_21 : decode cX9_dissolve 21 = .ok (.aload_n 0, 1) := by decide +kernel
theorem dX9_dissolve_22 : decode cX9_dissolve 22 = .ok (.getfield 120, 3) := by decide +kernel
theorem dX9_dissolve_25 : decode cX9_dissolve 25 = .ok (.iload_n 1, 1) := by decide +kernel
theorem dX9_dissolve_26 : decode cX9_dissolve 26 = .ok (.iaload, 1) := by decide +kernel
theorem dX9_dissolve_27 : decode cX9_dissolve 27 = .ok (.ifCond .gt 11, 3) := by decide +kernel
theorem dX9_dissolve_30 : decode cX9_dissolve 30 = .ok (.aload_n 0, 1) := by decide +kernel
theorem dX9_dissolve_31 : decode cX9_dissolve 31 = .ok (.iload_n 1, 1) := by decide +kernel
theorem dX9_dissolve_32 : decode cX9_dissolve 32 = .ok (.invokevirtual 240, 3) := by decide +kernel
theorem dX9_dissolve_35 : decode cX9_dissolve 35 = .ok (.ifCond .eq 7, 3) := by decide +kernel
theorem dX9_dissolve_38 : decode cX9_dissolve 38 = .ok (.iconst 2, 1) := by decide +kernel
theorem dX9_dissolve_39 : decode cX9_dissolve 39 = .ok (.goto 4, 3) := by decide +kernel
theorem dX9_dissolve_42 : decode cX9_dissolve 42 = .ok (.iconst 0, 1) := by decide +kernel
theorem dX9_dissolve_43 : decode cX9_dissolve 43 = .ok (.putfield 174, 3) := by decide +kernel
theorem dX9_dissolve_46 : decode cX9_dissolve 46 = .ok (.aload_n 0, 1) := by decide +kernel
theorem dX9_dissolve_47 : decode cX9_dissolve 47 = .ok (.getfield 174, 3) := by decide +kernel
theorem dX9_dissolve_50 : decode cX9_dissolve 50 = .ok (.ifCond .le 5, 3) := by decide +kernel
theorem dX9_dissolve_53 : decode cX9_dissolve 53 = .ok (.iconst 0, 1) := by decide +kernel
theorem dX9_dissolve_54 : decode cX9_dissolve 54 = .ok (.ireturn, 1) := by decide +kernel
theorem dX9_dissolve_55 : decode cX9_dissolve 55 = .ok (.aload_n 0, 1) := by decide +kernel
theorem dX9_dissolve_56 : decode cX9_dissolve 56 = .ok (.iload_n 1, 1) := by decide +kernel
theorem dX9_dissolve_57 : decode cX9_dissolve 57 = .ok (.aload_n 0, 1) := by decide +kernel
theorem dX9_dissolve_58 : decode cX9_dissolve 58 = .ok (.getfield 108, 3) := by decide +kernel
theorem dX9_dissolve_61 : decode cX9_dissolve 61 = .ok (.iload_n 1, 1) := by decide +kernel
theorem dX9_dissolve_62 : decode cX9_dissolve 62 = .ok (.iaload, 1) := by decide +kernel
theorem dX9_dissolve_63 : decode cX9_dissolve 63 = .ok (.invokevirtual 243, 3) := by decide +kernel
theorem dX9_dissolve_66 : decode cX9_dissolve 66 = .ok (.aload_n 0, 1) := by decide +kernel
theorem dX9_dissolve_67 : decode cX9_dissolve 67 = .ok (.getfield 108, 3) := by decide +kernel
theorem dX9_dissolve_70 : decode cX9_dissolve 70 = .ok (.iload_n 1, 1) := by decide +kernel
theorem dX9_dissolve_71 : decode cX9_dissolve 71 = .ok (.iaload, 1) := by decide +kernel
theorem dX9_dissolve_72 : decode cX9_dissolve 72 = .ok (.ireturn, 1) := by decide +kernel
theorem dX9_couple_0 : decode cX9_couple 0 = .ok (.aload_n 0, 1) := by decide +kernel
theorem dX9_couple_1 : decode cX9_couple 1 = .ok (.aload_n 0, 1) := by decide +kernel
theorem dX9_couple_2 : decode cX9_couple 2 = .ok (.iload_n 1, 1) := by decide +kernel
theorem dX9_couple_3 : decode cX9_couple 3 = .ok (.invokevirtual 237, 3) := by decide +kernel
theorem dX9_couple_6 : decode cX9_couple 6 = .ok (.ifCond .eq 11, 3) := by decide +kernel
theorem dX9_couple_9 : decode cX9_couple 9 = .ok (.aload_n 0, 1) := by decide +kernel
theorem dX9_couple_10 : decode cX9_couple 10 = .ok (.iload_n 2, 1) := by decide +kernel
theorem dX9_couple_11 : decode cX9_couple 11 = .ok (.invokevirtual 246, 3) := by decide +kernel
theorem dX9_couple_14 : decode cX9_couple 14 = .ok (.ifCond .ne 7, 3) := by decide +kernel
theorem dX9_couple_17 : decode cX9_couple 17 = .ok (.iconst 1, 1) := by decide +kernel
theorem dX9_couple_18 : decode cX9_couple 18 = .ok (.goto 52, 3) := by decide +kernel
theorem dX9_couple_21 : decode cX9_couple 21 = .ok (.aload_n 0, 1) := by decide +kernel
theorem dX9_couple_22 : decode cX9_couple 22 = .ok (.iload_n 1, 1) := by decide +kernel
theorem dX9_couple_23 : decode cX9_couple 23 = .ok (.invokevirtual 219, 3) := by decide +kernel
theorem dX9_couple_26 : decode cX9_couple 26 = .ok (.ifCond .eq 39, 3) := by decide +kernel
theorem dX9_couple_29 : decode cX9_couple 29 = .ok (.aload_n 0, 1) := by decide +kernel
theorem dX9_couple_30 : decode cX9_couple 30 = .ok (.getfield 120, 3) := by decide +kernel
theorem dX9_couple_33 : decode cX9_couple 33 = .ok (.iload_n 1, 1) := by decide +kernel
theorem dX9_couple_34 : decode cX9_couple 34 = .ok (.iaload, 1) := by decide +kernel
theorem dX9_couple_35 : decode cX9_couple 35 = .ok (.bipush 10, 2) := by decide +kernel
theorem dX9_couple_37 : decode cX9_couple 37 = .ok (.if_icmp .eq 28, 3) := by decide +kernel
theorem dX9_couple_40 : decode cX9_couple 40 = .ok (.aload_n 0, 1) := by decide +kernel
theorem dX9_couple_41 : decode cX9_couple 41 = .ok (.getfield 84, 3) := by decide +kernel
theorem dX9_couple_44 : decode cX9_couple 44 = .ok (.iload_n 2, 1) := by decide +kernel
theorem dX9_couple_45 : decode cX9_couple 45 = .ok (.iaload, 1) := by decide +kernel
theorem dX9_couple_46 : decode cX9_couple 46 = .ok (.iconst (-1), 1) := by decide +kernel
theorem dX9_couple_47 : decode cX9_couple 47 = .ok (.if_icmp .ne 18, 3) := by decide +kernel
theorem dX9_couple_50 : decode cX9_couple 50 = .ok (.aload_n 0, 1) := by decide +kernel
theorem dX9_couple_51 : decode cX9_couple 51 = .ok (.getfield 81, 3) := by decide +kernel
theorem dX9_couple_54 : decode cX9_couple 54 = .ok (.iload_n 2, 1) := by decide +kernel
theorem dX9_couple_55 : decode cX9_couple 55 = .ok (.iaload, 1) := by decide +kernel
theorem dX9_couple_56 : decode cX9_couple 56 = .ok (.aload_n 0, 1) := by decide +kernel
theorem dX9_couple_57 : decode cX9_couple 57 = .ok (.getfield 108, 3) := by decide +kernel
theorem dX9_couple_60 : decode cX9_couple 60 = .ok (.iload_n 1, 1) := by decide +kernel
theorem dX9_couple_61 : decode cX9_couple 61 = .ok (.iaload, 1) := by decide +kernel
theorem dX9_couple_62 : decode cX9_couple 62 = .ok (.if_icmp .eq 7, 3) := by decide +kernel
theorem dX9_couple_65 : decode cX9_couple 65 = .ok (.iconst 2, 1) := by decide +kernel
theorem dX9_couple_66 : decode cX9_couple 66 = .ok (.goto 4, 3) := by decide +kernel
theorem dX9_couple_69 : decode cX9_couple 69 = .ok (.iconst 0, 1) := by decide +kernel
theorem dX9_couple_70 : decode cX9_couple 70 = .ok (.putfield 174, 3) := by decide +kernel
theorem dX9_couple_73 : decode cX9_couple 73 = .ok (.aload_n 0, 1) := by decide +kernel
theorem dX9_couple_74 : decode cX9_couple 74 = .ok (.getfield 174, 3) := by decide +kernel
theorem dX9_couple_77 : decode cX9_couple 77 = .ok (.ifCond .le 5, 3) := by decide +kernel
theorem dX9_couple_80 : decode cX9_couple 80 = .ok (.iconst 0, 1) := by decide +kernel
theorem dX9_couple_81 : decode cX9_couple 81 = .ok (.ireturn, 1) := by decide +kernel
theorem dX9_couple_82 : decode cX9_couple 82 = .ok (.aload_n 0, 1) := by decide +kernel
theorem dX9_couple_83 : decode cX9_couple 83 = .ok (.getfield 108, 3) := by decide +kernel
theorem dX9_couple_86 : decode cX9_couple 86 = .ok (.iload_n 1, 1) := by decide +kernel
theorem dX9_couple_87 : decode cX9_couple 87 = .ok (.iaload, 1) := by decide +kernel
theorem dX9_couple_88 : decode cX9_couple 88 = .ok (.istore_n 3, 1) := by decide +kernel
theorem dX9_couple_89 : decode cX9_couple 89 = .ok (.iconst 0, 1) := by decide +kernel
theorem dX9_couple_90 : decode cX9_couple 90 = .ok (.istore 4, 2) := by decide +kernel
theorem dX9_couple_92 : decode cX9_couple 92 = .ok (.iconst 0, 1) := by decide +kernel
theorem dX9_couple_93 : decode cX9_couple 93 = .ok (.istore 5, 2) := by decide +kernel
theorem dX9_couple_95 : decode cX9_couple 95 = .ok (.iload 5, 2) := by decide +kernel
theorem dX9_couple_97 : decode cX9_couple 97 = .ok (.aload_n 0, 1) := by decide +kernel
theorem dX9_couple_98 : decode cX9_couple 98 = .ok (.getfield 93, 3) := by decide +kernel
theorem dX9_couple_101 : decode cX9_couple 101 = .ok (.iload_n 3, 1) := by decide +kernel
theorem dX9_couple_102 : decode cX9_couple 102 = .ok (.iaload, 1) := by decide +kernel
theorem dX9_couple_103 : decode cX9_couple 103 = .ok (.if_icmp .ge 59, 3) := by decide +kernel
theorem dX9_couple_106 : decode cX9_couple 106 = .ok (.aload_n 0, 1) := by decide +kernel
theorem dX9_couple_107 : decode cX9_couple 107 = .ok (.getfield 90, 3) := by decide +kernel
theorem dX9_couple_110 : decode cX9_couple 110 = .ok (.bipush 20, 2) := by decide +kernel
theorem dX9_couple_112 : decode cX9_couple 112 = .ok (.iload_n 3, 1) := by decide +kernel
theorem dX9_couple_113 : decode cX9_couple 113 = .ok (.imul, 1) := by decide +kernel
theorem dX9_couple_114 : decode cX9_couple 114 = .ok (.iload 4, 2) := by decide +kernel
theorem dX9_couple_116 : decode cX9_couple 116 = .ok (.iadd, 1) := by decide +kernel
theorem dX9_couple_117 : decode cX9_couple 117 = .ok (.aload_n 0, 1) := by decide +kernel
theorem dX9_couple_118 : decode cX9_couple 118 = .ok (.getfield 90, 3) := by decide +kernel
theorem dX9_couple_121 : decode cX9_couple 121 = .ok (.bipush 20, 2) := by decide +kernel
theorem dX9_couple_123 : decode cX9_couple 123 = .ok (.iload_n 3, 1) := by decide +kernel
theorem dX9_couple_124 : decode cX9_couple 124 = .ok (.imul, 1) := by decide +kernel
theorem dX9_couple_125 : decode cX9_couple 125 = .ok (.iload 5, 2) := by decide +kernel
theorem dX9_couple_127 : decode cX9_couple 127 = .ok (.iadd, 1) := by decide +kernel
theorem dX9_couple_128 : decode cX9_couple 128 = .ok (.iaload, 1) := by decide +kernel
theorem dX9_couple_129 : decode cX9_couple 129 = .ok (.iastore, 1) := by decide +kernel
theorem dX9_couple_130 : decode cX9_couple 130 = .ok (.iload 4, 2) := by decide +kernel
theorem dX9_couple_132 : decode cX9_couple 132 = .ok (.aload_n 0, 1) := by decide +kernel
theorem dX9_couple_133 : decode cX9_couple 133 = .ok (.getfield 90, 3) := by decide +kernel
theorem dX9_couple_136 : decode cX9_couple 136 = .ok (.bipush 20, 2) := by decide +kernel
theorem dX9_couple_138 : decode cX9_couple 138 = .ok (.iload_n 3, 1) := by decide +kernel
theorem dX9_couple_139 : decode cX9_couple 139 = .ok (.imul, 1) := by decide +kernel
theorem dX9_couple_140 : decode cX9_couple 140 = .ok (.iload 5, 2) := by decide +kernel
theorem dX9_couple_142 : decode cX9_couple 142 = .ok (.iadd, 1) := by decide +kernel
theorem dX9_couple_143 : decode cX9_couple 143 = .ok (.iaload, 1) := by decide +kernel
theorem dX9_couple_144 : decode cX9_couple 144 = .ok (.iload_n 2, 1) := by decide +kernel
theorem dX9_couple_145 : decode cX9_couple 145 = .ok (.if_icmp .ne 7, 3) := by decide +kernel
theorem dX9_couple_148 : decode cX9_couple 148 = .ok (.iconst 0, 1) := by decide +kernel
theorem dX9_couple_149 : decode cX9_couple 149 = .ok (.goto 4, 3) := by decide +kernel
theorem dX9_couple_152 : decode cX9_couple 152 = .ok (.iconst 1, 1) := by decide +kernel
theorem dX9_couple_153 : decode cX9_couple 153 = .ok (.iadd, 1) := by decide +kernel
theorem dX9_couple_154 : decode cX9_couple 154 = .ok (.istore 4, 2) := by decide +kernel
theorem dX9_couple_156 : decode cX9_couple 156 = .ok (.iinc 5 1, 3) := by decide +kernel
theorem dX9_couple_159 : decode cX9_couple 159 = .ok (.goto (-64), 3) := by decide +kernel
theorem dX9_couple_162 : decode cX9_couple 162 = .ok (.aload_n 0, 1) := by decide +kernel
theorem dX9_couple_163 : decode cX9_couple 163 = .ok (.getfield 93, 3) := by decide +kernel
theorem dX9_couple_166 : decode cX9_couple 166 = .ok (.iload_n 3, 1) := by decide +kernel
theorem dX9_couple_167 : decode cX9_couple 167 = .ok (.iload 4, 2) := by decide +kernel
theorem dX9_couple_169 : decode cX9_couple 169 = .ok (.iastore, 1) := by decide +kernel
theorem dX9_couple_170 : decode cX9_couple 170 = .ok (.aload_n 0, 1) := by decide +kernel
theorem dX9_couple_171 : decode cX9_couple 171 = .ok (.getfield 84, 3) := by decide +kernel
theorem dX9_couple_174 : decode cX9_couple 174 = .ok (.iload_n 2, 1) := by decide +kernel
theorem dX9_couple_175 : decode cX9_couple 175 = .ok (.iload_n 1, 1) := by decide +kernel
theorem dX9_couple_176 : decode cX9_couple 176 = .ok (.iastore, 1) := by decide +kernel
theorem dX9_couple_177 : decode cX9_couple 177 = .ok (.aload_n 0, 1) := by decide +kernel
theorem dX9_couple_178 : decode cX9_couple 178 = .ok (.getfield 117, 3) := by decide +kernel
theorem dX9_couple_181 : decode cX9_couple 181 = .ok (.bipush 10, 2) := by decide +kernel
theorem dX9_couple_183 : decode cX9_couple 183 = .ok (.iload_n 1, 1) := by decide +kernel
theorem dX9_couple_184 : decode cX9_couple 184 = .ok (.imul, 1) := by decide +kernel
theorem dX9_couple_185 : decode cX9_couple 185 = .ok (.aload_n 0, 1) := by decide +kernel
theorem dX9_couple_186 : decode cX9_couple 186 = .ok (.getfield 120, 3) := by decide +kernel
theorem dX9_couple_189 : decode cX9_couple 189 = .ok (.iload_n 1, 1) := by decide +kernel
theorem dX9_couple_190 : decode cX9_couple 190 = .ok (.iaload, 1) := by decide +kernel
theorem dX9_couple_191 : decode cX9_couple 191 = .ok (.iadd, 1) := by decide +kernel
theorem dX9_couple_192 : decode cX9_couple 192 = .ok (.iload_n 2, 1) := by decide +kernel
theorem dX9_couple_193 : decode cX9_couple 193 = .ok (.iastore, 1) := by decide +kernel
theorem dX9_couple_194 : decode cX9_couple 194 = .ok (.aload_n 0, 1) := by decide +kernel
theorem dX9_couple_195 : decode cX9_couple 195 = .ok (.getfield 120, 3) := by decide +kernel
theorem dX9_couple_198 : decode cX9_couple 198 = .ok (.iload_n 1, 1) := by decide +kernel
theorem dX9_couple_199 : decode cX9_couple 199 = .ok (.dup2, 1) := by decide +kernel
theorem dX9_couple_200 : decode cX9_couple 200 = .ok (.iaload, 1) := by decide +kernel
theorem dX9_couple_201 : decode cX9_couple 201 = .ok (.iconst 1, 1) := by decide +kernel
theorem dX9_couple_202 : decode cX9_couple 202 = .ok (.iadd, 1) := by decide +kernel
theorem dX9_couple_203 : decode cX9_couple 203 = .ok (.iastore, 1) := by decide +kernel
theorem dX9_couple_204 : decode cX9_couple 204 = .ok (.aload_n 0, 1) := by decide +kernel
theorem dX9_couple_205 : decode cX9_couple 205 = .ok (.iload_n 2, 1) := by decide +kernel
theorem dX9_couple_206 : decode cX9_couple 206 = .ok (.iconst 1, 1) := by decide +kernel
theorem dX9_couple_207 : decode cX9_couple 207 = .ok (.iload_n 1, 1) := by decide +kernel
theorem dX9_couple_208 : decode cX9_couple 208 = .ok (.invokevirtual 226, 3) := by decide +kernel
theorem dX9_couple_211 : decode cX9_couple 211 = .ok (.aload_n 0, 1) := by decide +kernel
theorem dX9_couple_212 : decode cX9_couple 212 = .ok (.getfield 120, 3) := by decide +kernel
theorem dX9_couple_215 : decode cX9_couple 215 = .ok (.iload_n 1, 1) := by decide +kernel
theorem dX9_couple_216 : decode cX9_couple 216 = .ok (.iaload, 1) := by decide +kernel
theorem dX9_couple_217 : decode cX9_couple 217 = .ok (.ireturn, 1) := by decide +kernel
theorem dX9_uncouple_0 : decode cX9_uncouple 0 = .ok (.aload_n 0, 1) := by decide +kernel
theorem dX9_uncouple_1 : decode cX9_uncouple 1 = .ok (.aload_n 0, 1) := by decide +kernel
theorem dX9_uncouple_2 : decode cX9_uncouple 2 = .ok (.iload_n 1, 1) := by decide +kernel
theorem dX9_uncouple_3 : decode cX9_uncouple 3 = .ok (.invokevirtual 237, 3) := by decide +kernel
theorem dX9_uncouple_6 : decode cX9_uncouple 6 = .ok (.ifCond .eq 11, 3) := by decide +kernel
theorem dX9_uncouple_9 : decode cX9_uncouple 9 = .ok (.aload_n 0, 1) := by decide +kernel
theorem dX9_uncouple_10 : decode cX9_uncouple 10 = .ok (.iload_n 2, 1) := by decide +kernel
theorem dX9_uncouple_11 : decode cX9_uncouple 11 = .ok (.invokevirtual 246, 3) := by decide +kernel
theorem dX9_uncouple_14 : decode cX9_uncouple 14 = .ok (.ifCond .ne 7, 3) := by decide +kernel
theorem dX9_uncouple_17 : decode cX9_uncouple 17 = .ok (.iconst 1, 1) := by decide +kernel
theorem dX9_uncouple_18 : decode cX9_uncouple 18 = .ok (.goto 26, 3) := by decide +kernel
theorem dX9_uncouple_21 : decode cX9_uncouple 21 = .ok (.aload_n 0, 1) := by decide +kernel
theorem dX9_uncouple_22 : decode cX9_uncouple 22 = .ok (.iload_n 1, 1) := by decide +kernel
theorem dX9_uncouple_23 : decode cX9_uncouple 23 = .ok (.invokevirtual 219, 3) := by decide +kernel
theorem dX9_uncouple_26 : decode cX9_uncouple 26 = .ok (.ifCond .eq 13, 3) := by decide +kernel
theorem dX9_uncouple_29 : decode cX9_uncouple 29 = .ok (.aload_n 0, 1) := by decide +kernel
theorem dX9_uncouple_30 : decode cX9_uncouple 30 = .ok (.getfield 84, 3) := by decide +kernel
theorem dX9_uncouple_33 : decode cX9_uncouple 33 = .ok (.iload_n 2, 1) := by decide +kernel
theorem dX9_uncouple_34 : decode cX9_uncouple 34 = .ok (.iaload, 1) := by decide +kernel
theorem dX9_uncouple_35 : decode cX9_uncouple 35 = .ok (.iload_n 1, 1) := by decide +kernel
theorem dX9_uncouple_36 : decode cX9_uncouple 36 = .ok (.if_icmp .eq 7, 3) := by decide +kernel
theorem dX9_uncouple_39 : decode cX9_uncouple 39 = .ok (.iconst 2, 1) := by decide +kernel
theorem dX9_uncouple_40 : decode cX9_uncouple 40 = .ok (.goto 4, 3) := by decide +kernel
theorem dX9_uncouple_43 : decode cX9_uncouple 43 = .ok (.iconst 0, 1) := by decide +kernel
theorem dX9_uncouple_44 : decode cX9_uncouple 44 = .ok (.putfield 174, 3) := by decide +kernel
theorem dX9_uncouple_47 : decode cX9_uncouple 47 = .ok (.aload_n 0, 1) := by decide +kernel
theorem dX9_uncouple_48 : decode cX9_uncouple 48 = .ok (.getfield 174, 3) := by decide +kernel
theorem dX9_uncouple_51 : decode cX9_uncouple 51 = .ok (.ifCond .le 5, 3) := by decide +kernel
theorem dX9_uncouple_54 : decode cX9_uncouple 54 = .ok (.iconst 0, 1) := by decide +kernel
theorem dX9_uncouple_55 : decode cX9_uncouple 55 = .ok (.ireturn, 1) := by decide +kernel
theorem dX9_uncouple_56 : decode cX9_uncouple 56 = .ok (.iconst 0, 1) := by decide +kernel
theorem dX9_uncouple_57 : decode cX9_uncouple 57 = .ok (.istore_n 3, 1) := by decide +kernel
theorem dX9_uncouple_58 : decode cX9_uncouple 58 = .ok (.iconst 0, 1) := by decide +kernel
theorem dX9_uncouple_59 : decode cX9_uncouple 59 = .ok (.istore 4, 2) := by decide +kernel
theorem dX9_uncouple_61 : decode cX9_uncouple 61 = .ok (.iload 4, 2) := by decide +kernel
theorem dX9_uncouple_63 : decode cX9_uncouple 63 = .ok (.aload_n 0, 1) := by decide +kernel
theorem dX9_uncouple_64 : decode cX9_uncouple 64 = .ok (.getfield 120, 3) := by decide +kernel
theorem dX9_uncouple_67 : decode cX9_uncouple 67 = .ok (.iload_n 1, 1) := by decide +kernel
theorem dX9_uncouple_68 : decode cX9_uncouple 68 = .ok (.iaload, 1) := by decide +kernel
theorem dX9_uncouple_69 : decode cX9_uncouple 69 = .ok (.if_icmp .ge 56, 3) := by decide +kernel
theorem dX9_uncouple_72 : decode cX9_uncouple 72 = .ok (.aload_n 0, 1) := by decide +kernel
theorem dX9_uncouple_73 : decode cX9_uncouple 73 = .ok (.getfield 117, 3) := by decide +kernel
theorem dX9_uncouple_76 : decode cX9_uncouple 76 = .ok (.bipush 10, 2) := by decide +kernel
theorem dX9_uncouple_78 : decode cX9_uncouple 78 = .ok (.iload_n 1, 1) := by decide +kernel
theorem dX9_uncouple_79 : decode cX9_uncouple 79 = .ok (.imul, 1) := by decide +kernel
theorem dX9_uncouple_80 : decode cX9_uncouple 80 = .ok (.iload_n 3, 1) := by decide +kernel
theorem dX9_uncouple_81 : decode cX9_uncouple 81 = .ok (.iadd, 1) := by decide +kernel
theorem dX9_uncouple_82 : decode cX9_uncouple 82 = .ok (.aload_n 0, 1) := by decide +kernel
theorem dX9_uncouple_83 : decode cX9_uncouple 83 = .ok (.getfield 117, 3) := by decide +kernel
theorem dX9_uncouple_86 : decode cX9_uncouple 86 = .ok (.bipush 10, 2) := by decide +kernel
theorem dX9_uncouple_88 : decode cX9_uncouple 88 = .ok (.iload_n 1, 1) := by decide +kernel
theorem dX9_uncouple_89 : decode cX9_uncouple 89 = .ok (.imul, 1) := by decide +kernel
theorem dX9_uncouple_90 : decode cX9_uncouple 90 = .ok (.iload 4, 2) := by decide +kernel
theorem dX9_uncouple_92 : decode cX9_uncouple 92 = .ok (.iadd, 1) := by decide +kernel
theorem dX9_uncouple_93 : decode cX9_uncouple 93 = .ok (.iaload, 1) := by decide +kernel
theorem dX9_uncouple_94 : decode cX9_uncouple 94 = .ok (.iastore, 1) := by decide +kernel
theorem dX9_uncouple_95 : decode cX9_uncouple 95 = .ok (.iload_n 3, 1) := by decide +kernel
theorem dX9_uncouple_96 : decode cX9_uncouple 96 = .ok (.aload_n 0, 1) := by decide +kernel
theorem dX9_uncouple_97 : decode cX9_uncouple 97 = .ok (.getfield 117, 3) := by decide +kernel
theorem dX9_uncouple_100 : decode cX9_uncouple 100 = .ok (.bipush 10, 2) := by decide +kernel
theorem dX9_uncouple_102 : decode cX9_uncouple 102 = .ok (.iload_n 1, 1) := by decide +kernel
theorem dX9_uncouple_103 : decode cX9_uncouple 103 = .ok (.imul, 1) := by decide +kernel
theorem dX9_uncouple_104 : decode cX9_uncouple 104 = .ok (.iload 4, 2) := by decide +kernel
theorem dX9_uncouple_106 : decode cX9_uncouple 106 = .ok (.iadd, 1) := by decide +kernel
theorem dX9_uncouple_107 : decode cX9_uncouple 107 = .ok (.iaload, 1) := by decide +kernel
theorem dX9_uncouple_108 : decode cX9_uncouple 108 = .ok (.iload_n 2, 1) := by decide +kernel
theorem dX9_uncouple_109 : decode cX9_uncouple 109 = .ok (.if_icmp .ne 7, 3) := by decide +kernel
theorem dX9_uncouple_112 : decode cX9_uncouple 112 = .ok (.iconst 0, 1) := by decide +kernel
theorem dX9_uncouple_113 : decode cX9_uncouple 113 = .ok (.goto 4, 3) := by decide +kernel
theorem dX9_uncouple_116 : decode cX9_uncouple 116 = .ok (.iconst 1, 1) := by decide +kernel
theorem dX9_uncouple_117 : decode cX9_uncouple 117 = .ok (.iadd, 1) := by decide +kernel
theorem dX9_uncouple_118 : decode cX9_uncouple 118 = .ok (.istore_n 3, 1) := by decide +kernel
theorem dX9_uncouple_119 : decode cX9_uncouple 119 = .ok (.iinc 4 1, 3) := by decide +kernel
theorem dX9_uncouple_122 : decode cX9_uncouple 122 = .ok (.goto (-61), 3) := by decide +kernel
theorem dX9_uncouple_125 : decode cX9_uncouple 125 = .ok (.aload_n 0, 1) := by decide +kernel
theorem dX9_uncouple_126 : decode cX9_uncouple 126 = .ok (.getfield 120, 3) := by decide +kernel
theorem dX9_uncouple_129 : decode cX9_uncouple 129 = .ok (.iload_n 1, 1) := by decide +kernel
theorem dX9_uncouple_130 : decode cX9_uncouple 130 = .ok (.iload_n 3, 1) := by decide +kernel
theorem dX9_uncouple_131 : decode cX9_uncouple 131 = .ok (.iastore, 1) := by decide +kernel
theorem dX9_uncouple_132 : decode cX9_uncouple 132 = .ok (.aload_n 0, 1) := by decide +kernel
theorem dX9_uncouple_133 : decode cX9_uncouple 133 = .ok (.iload_n 2, 1) := by decide +kernel
theorem dX9_uncouple_134 : decode cX9_uncouple 134 = .ok (.aload_n 0, 1) := by decide +kernel
theorem dX9_uncouple_135 : decode cX9_uncouple 135 = .ok (.getfield 108, 3) := by decide +kernel
theorem dX9_uncouple_138 : decode cX9_uncouple 138 = .ok (.iload_n 1, 1) := by decide +kernel
theorem dX9_uncouple_139 : decode cX9_uncouple 139 = .ok (.iaload, 1) := by decide +kernel
theorem dX9_uncouple_140 : decode cX9_uncouple 140 = .ok (.invokevirtual 222, 3) := by decide +kernel
theorem dX9_uncouple_143 : decode cX9_uncouple 143 = .ok (.aload_n 0, 1) := by decide +kernel
theorem dX9_uncouple_144 : decode cX9_uncouple 144 = .ok (.getfield 120, 3) := by decide +kernel
theorem dX9_uncouple_147 : decode cX9_uncouple 147 = .ok (.iload_n 1, 1) := by decide +kernel
theorem dX9_uncouple_148 : decode cX9_uncouple 148 = .ok (.iaload, 1) := by decide +kernel
theorem dX9_uncouple_149 : decode cX9_uncouple 149 = .ok (.ireturn, 1) := by decide +kernel
theorem dX9_leg_0 : decode cX9_leg 0 = .ok (.aload_n 0, 1) := by decide +kernel
theorem dX9_leg_1 : decode cX9_leg 1 = .ok (.aload_n 0, 1) := by decide +kernel
theorem dX9_leg_2 : decode cX9_leg 2 = .ok (.iload_n 1, 1) := by decide +kernel
theorem dX9_leg_3 : decode cX9_leg 3 = .ok (.invokevirtual 201, 3) := by decide +kernel
theorem dX9_leg_6 : decode cX9_leg 6 = .ok (.ifCond .ne 7, 3) := by decide +kernel
theorem dX9_leg_9 : decode cX9_leg 9 = .ok (.iconst 1, 1) := by decide +kernel
theorem dX9_leg_10 : decode cX9_leg 10 = .ok (.goto 17, 3) := by decide +kernel
theorem dX9_leg_13 : decode cX9_leg 13 = .ok (.aload_n 0, 1) := by decide +kernel
theorem dX9_leg_14 : decode cX9_leg 14 = .ok (.getfield 249, 3) := by decide +kernel
theorem dX9_leg_17 : decode cX9_leg 17 = .ok (.bipush 8, 2) := by decide +kernel
theorem dX9_leg_19 : decode cX9_leg 19 = .ok (.if_icmp .ne 7, 3) := by decide +kernel
theorem dX9_leg_22 : decode cX9_leg 22 = .ok (.iconst 2, 1) := by decide +kernel
theorem dX9_leg_23 : decode cX9_leg 23 = .ok (.goto 4, 3) := by decide +kernel
theorem dX9_leg_26 : decode cX9_leg 26 = .ok (.iconst 0, 1) := by decide +kernel
theorem dX9_leg_27 : decode cX9_leg 27 = .ok (.putfield 174, 3) := by decide +kernel
theorem dX9_leg_30 : decode cX9_leg 30 = .ok (.aload_n 0, 1) := by decide +kernel
theorem dX9_leg_31 : decode cX9_leg 31 = .ok (.getfield 174, 3) := by decide +kernel
theorem dX9_leg_34 : decode cX9_leg 34 = .ok (.ifCond .le 5, 3) := by decide +kernel
theorem dX9_leg_37 : decode cX9_leg 37 = .ok (.iconst 0, 1) := by decide +kernel
theorem dX9_leg_38 : decode cX9_leg 38 = .ok (.ireturn, 1) := by decide +kernel
theorem dX9_leg_39 : decode cX9_leg 39 = .ok (.aload_n 0, 1) := by decide +kernel
theorem dX9_leg_40 : decode cX9_leg 40 = .ok (.getfield 144, 3) := by decide +kernel
theorem dX9_leg_43 : decode cX9_leg 43 = .ok (.aload_n 0, 1) := by decide +kernel
theorem dX9_leg_44 : decode cX9_leg 44 = .ok (.getfield 249, 3) := by decide +kernel
theorem dX9_leg_47 : decode cX9_leg 47 = .ok (.iload_n 1, 1) := by decide +kernel
theorem dX9_leg_48 : decode cX9_leg 48 = .ok (.iastore, 1) := by decide +kernel
theorem dX9_leg_49 : decode cX9_leg 49 = .ok (.aload_n 0, 1) := by decide +kernel
theorem dX9_leg_50 : decode cX9_leg 50 = .ok (.dup, 1) := by decide +kernel
theorem dX9_leg_51 : decode cX9_leg 51 = .ok (.getfield 249, 3) := by decide +kernel
theorem dX9_leg_54 : decode cX9_leg 54 = .ok (.iconst 1, 1) := by decide +kernel
theorem dX9_leg_55 : decode cX9_leg 55 = .ok (.iadd, 1) := by decide +kernel
theorem dX9_leg_56 : decode cX9_leg 56 = .ok (.putfield 249, 3) := by decide +kernel
theorem dX9_leg_59 : decode cX9_leg 59 = .ok (.aload_n 0, 1) := by decide +kernel
theorem dX9_leg_60 : decode cX9_leg 60 = .ok (.getfield 249, 3) := by decide +kernel
theorem dX9_leg_63 : decode cX9_leg 63 = .ok (.ireturn, 1) := by decide +kernel
theorem dX9_other_0 : decode cX9_other 0 = .ok (.aload_n 0, 1) := by decide +kernel
theorem dX9_other_1 : decode cX9_other 1 = .ok (.getfield 17, 3) := by decide +kernel
theorem dX9_other_4 : decode cX9_other 4 = .ok (.iconst 2, 1) := by decide +kernel
theorem dX9_other_5 : decode cX9_other 5 = .ok (.iload_n 1, 1) := by decide +kernel
theorem dX9_other_6 : decode cX9_other 6 = .ok (.imul, 1) := by decide +kernel
theorem dX9_other_7 : decode cX9_other 7 = .ok (.iaload, 1) := by decide +kernel
theorem dX9_other_8 : decode cX9_other 8 = .ok (.iload_n 2, 1) := by decide +kernel
theorem dX9_other_9 : decode cX9_other 9 = .ok (.if_icmp .ne 16, 3) := by decide +kernel
theorem dX9_other_12 : decode cX9_other 12 = .ok (.aload_n 0, 1) := by decide +kernel
theorem dX9_other_13 : decode cX9_other 13 = .ok (.getfield 17, 3) := by decide +kernel
theorem dX9_other_16 : decode cX9_other 16 = .ok (.iconst 2, 1) := by decide +kernel
theorem dX9_other_17 : decode cX9_other 17 = .ok (.iload_n 1, 1) := by decide +kernel
theorem dX9_other_18 : decode cX9_other 18 = .ok (.imul, 1) := by decide +kernel
theorem dX9_other_19 : decode cX9_other 19 = .ok (.iconst 1, 1) := by decide +kernel
theorem dX9_other_20 : decode cX9_other 20 = .ok (.iadd, 1) := by decide +kernel
theorem dX9_other_21 : decode cX9_other 21 = .ok (.iaload, 1) := by decide +kernel
theorem dX9_other_22 : decode cX9_other 22 = .ok (.goto 29, 3) := by decide +kernel
theorem dX9_other_25 : decode cX9_other 25 = .ok (.aload_n 0, 1) := by decide +kernel
theorem dX9_other_26 : decode cX9_other 26 = .ok (.getfield 17, 3) := by decide +kernel
theorem dX9_other_29 : decode cX9_other 29 = .ok (.iconst 2, 1) := by decide +kernel
theorem dX9_other_30 : decode cX9_other 30 = .ok (.iload_n 1, 1) := by decide +kernel
theorem dX9_other_31 : decode cX9_other 31 = .ok (.imul, 1) := by decide +kernel
theorem dX9_other_32 : decode cX9_other 32 = .ok (.iconst 1, 1) := by decide +kernel
theorem dX9_other_33 : decode cX9_other 33 = .ok (.iadd, 1) := by decide +kernel
theorem dX9_other_34 : decode cX9_other 34 = .ok (.iaload, 1) := by decide +kernel
theorem dX9_other_35 : decode cX9_other 35 = .ok (.iload_n 2, 1) := by decide +kernel
theorem dX9_other_36 : decode cX9_other 36 = .ok (.if_icmp .ne 14, 3) := by decide +kernel
theorem dX9_other_39 : decode cX9_other 39 = .ok (.aload_n 0, 1) := by decide +kernel
theorem dX9_other_40 : decode cX9_other 40 = .ok (.getfield 17, 3) := by decide +kernel
theorem dX9_other_43 : decode cX9_other 43 = .ok (.iconst 2, 1) := by decide +kernel
theorem dX9_other_44 : decode cX9_other 44 = .ok (.iload_n 1, 1) := by decide +kernel
theorem dX9_other_45 : decode cX9_other 45 = .ok (.imul, 1) := by decide +kernel
theorem dX9_other_46 : decode cX9_other 46 = .ok (.iaload, 1) := by decide +kernel
theorem dX9_other_47 : decode cX9_other 47 = .ok (.goto 4, 3) := by decide +kernel
theorem dX9_other_50 : decode cX9_other 50 = .ok (.iconst (-1), 1) := by decide +kernel
theorem dX9_other_51 : decode cX9_other 51 = .ok (.ireturn, 1) := by decide +kernel
theorem dX9_plan_0 : decode cX9_plan 0 = .ok (.aload_n 0, 1) := by decide +kernel
theorem dX9_plan_1 : decode cX9_plan 1 = .ok (.aload_n 0, 1) := by decide +kernel
theorem dX9_plan_2 : decode cX9_plan 2 = .ok (.iload_n 1, 1) := by decide +kernel
theorem dX9_plan_3 : decode cX9_plan 3 = .ok (.invokevirtual 237, 3) := by decide +kernel
theorem dX9_plan_6 : decode cX9_plan 6 = .ok (.ifCond .ne 7, 3) := by decide +kernel
theorem dX9_plan_9 : decode cX9_plan 9 = .ok (.iconst 1, 1) := by decide +kernel
theorem dX9_plan_10 : decode cX9_plan 10 = .ok (.goto 29, 3) := by decide +kernel
theorem dX9_plan_13 : decode cX9_plan 13 = .ok (.iload_n 2, 1) := by decide +kernel
theorem dX9_plan_14 : decode cX9_plan 14 = .ok (.iconst 0, 1) := by decide +kernel
theorem dX9_plan_15 : decode cX9_plan 15 = .ok (.sipush 20000, 3) := by decide +kernel
theorem dX9_plan_18 : decode cX9_plan 18 = .ok (.invokestatic 177, 3) := by decide +kernel
theorem dX9_plan_21 : decode cX9_plan 21 = .ok (.ifCond .eq 13, 3) := by decide +kernel
theorem dX9_plan_24 : decode cX9_plan 24 = .ok (.iload_n 3, 1) := by decide +kernel
theorem dX9_plan_25 : decode cX9_plan 25 = .ok (.iconst 0, 1) := by decide +kernel
theorem dX9_plan_26 : decode cX9_plan 26 = .ok (.bipush 9, 2) := by decide +kernel
theorem dX9_plan_28 : decode cX9_plan 28 = .ok (.invokestatic 177, 3) := by decide +kernel
theorem dX9_plan_31 : decode cX9_plan 31 = .ok (.ifCond .ne 7, 3) := by decide +kernel
theorem dX9_plan_34 : decode cX9_plan 34 = .ok (.iconst 2, 1) := by decide +kernel
theorem dX9_plan_35 : decode cX9_plan 35 = .ok (.goto 4, 3) := by decide +kernel
theorem dX9_plan_38 : decode cX9_plan 38 = .ok (.iconst 0, 1) := by decide +kernel
theorem dX9_plan_39 : decode cX9_plan 39 = .ok (.putfield 174, 3) := by decide +kernel
theorem dX9_plan_42 : decode cX9_plan 42 = .ok (.aload_n 0, 1) := by decide +kernel
theorem dX9_plan_43 : decode cX9_plan 43 = .ok (.getfield 174, 3) := by decide +kernel
theorem dX9_plan_46 : decode cX9_plan 46 = .ok (.ifCond .le 5, 3) := by decide +kernel
theorem dX9_plan_49 : decode cX9_plan 49 = .ok (.iconst 0, 1) := by decide +kernel
theorem dX9_plan_50 : decode cX9_plan 50 = .ok (.ireturn, 1) := by decide +kernel
theorem dX9_plan_51 : decode cX9_plan 51 = .ok (.aload_n 0, 1) := by decide +kernel
theorem dX9_plan_52 : decode cX9_plan 52 = .ok (.getfield 108, 3) := by decide +kernel
theorem dX9_plan_55 : decode cX9_plan 55 = .ok (.iload_n 1, 1) := by decide +kernel
theorem dX9_plan_56 : decode cX9_plan 56 = .ok (.iaload, 1) := by decide +kernel
theorem dX9_plan_57 : decode cX9_plan 57 = .ok (.istore 4, 2) := by decide +kernel
theorem dX9_plan_59 : decode cX9_plan 59 = .ok (.iconst 0, 1) := by decide +kernel
theorem dX9_plan_60 : decode cX9_plan 60 = .ok (.istore 5, 2) := by decide +kernel
theorem dX9_plan_62 : decode cX9_plan 62 = .ok (.iload 5, 2) := by decide +kernel
theorem dX9_plan_64 : decode cX9_plan 64 = .ok (.aload_n 0, 1) := by decide +kernel
theorem dX9_plan_65 : decode cX9_plan 65 = .ok (.getfield 249, 3) := by decide +kernel
theorem dX9_plan_68 : decode cX9_plan 68 = .ok (.if_icmp .ge 30, 3) := by decide +kernel
theorem dX9_plan_71 : decode cX9_plan 71 = .ok (.iload 4, 2) := by decide +kernel
theorem dX9_plan_73 : decode cX9_plan 73 = .ok (.iconst (-1), 1) := by decide +kernel
theorem dX9_plan_74 : decode cX9_plan 74 = .ok (.if_icmp .eq 24, 3) := by decide +kernel
theorem dX9_plan_77 : decode cX9_plan 77 = .ok (.aload_n 0, 1) := by decide +kernel
theorem dX9_plan_78 : decode cX9_plan 78 = .ok (.aload_n 0, 1) := by decide +kernel
theorem dX9_plan_79 : decode cX9_plan 79 = .ok (.getfield 144, 3) := by decide +kernel
theorem dX9_plan_82 : decode cX9_plan 82 = .ok (.iload 5, 2) := by decide +kernel
theorem dX9_plan_84 : decode cX9_plan 84 = .ok (.iaload, 1) := by decide +kernel
theorem dX9_plan_85 : decode cX9_plan 85 = .ok (.iload 4, 2) := by decide +kernel
theorem dX9_plan_87 : decode cX9_plan 87 = .ok (.invokevirtual 252, 3) := by decide +kernel
theorem dX9_plan_90 : decode cX9_plan 90 = .ok (.istore 4, 2) := by decide +kernel
theorem dX9_plan_92 : decode cX9_plan 92 = .ok (.iinc 5 1, 3) := by decide +kernel
theorem dX9_plan_95 : decode cX9_plan 95 = .ok (.goto (-33), 3) := by decide +kernel
theorem dX9_plan_98 : decode cX9_plan 98 = .ok (.aload_n 0, 1) := by decide +kernel
theorem dX9_plan_99 : decode cX9_plan 99 = .ok (.iload_n 1, 1) := by decide +kernel
theorem dX9_plan_100 : decode cX9_plan 100 = .ok (.invokevirtual 219, 3) := by decide +kernel
theorem dX9_plan_103 : decode cX9_plan 103 = .ok (.ifCond .eq 16, 3) := by decide +kernel
theorem dX9_plan_106 : decode cX9_plan 106 = .ok (.aload_n 0, 1) := by decide +kernel
theorem dX9_plan_107 : decode cX9_plan 107 = .ok (.getfield 249, 3) := by decide +kernel
theorem dX9_plan_110 : decode cX9_plan 110 = .ok (.ifCond .eq 9, 3) := by decide +kernel
theorem dX9_plan_113 : decode cX9_plan 113 = .ok (.iload 4, 2) := by decide +kernel
theorem dX9_plan_115 : decode cX9_plan 115 = .ok (.iconst (-1), 1) := by decide +kernel
theorem dX9_plan_116 : decode cX9_plan 116 = .ok (.if_icmp .ne 9, 3) := by decide +kernel
theorem dX9_plan_119 : decode cX9_plan 119 = .ok (.aload_n 0, 1) := by decide +kernel
theorem dX9_plan_120 : decode cX9_plan 120 = .ok (.iconst 3, 1) := by decide +kernel
theorem dX9_plan_121 : decode cX9_plan 121 = .ok (.invokevirtual 234, 3) := by decide +kernel
theorem dX9_plan_124 : decode cX9_plan 124 = .ok (.ireturn, 1) := by decide +kernel
theorem dX9_plan_125 : decode cX9_plan 125 = .ok (.iconst 0, 1) := by decide +kernel
theorem dX9_plan_126 : decode cX9_plan 126 = .ok (.istore 5, 2) := by decide +kernel
theorem dX9_plan_128 : decode cX9_plan 128 = .ok (.iload 5, 2) := by decide +kernel
theorem dX9_plan_130 : decode cX9_plan 130 = .ok (.aload_n 0, 1) := by decide +kernel
theorem dX9_plan_131 : decode cX9_plan 131 = .ok (.getfield 249, 3) := by decide +kernel
theorem dX9_plan_134 : decode cX9_plan 134 = .ok (.if_icmp .ge 28, 3) := by decide +kernel
theorem dX9_plan_137 : decode cX9_plan 137 = .ok (.aload_n 0, 1) := by decide +kernel
theorem dX9_plan_138 : decode cX9_plan 138 = .ok (.getfield 123, 3) := by decide +kernel
theorem dX9_plan_141 : decode cX9_plan 141 = .ok (.bipush 8, 2) := by decide +kernel
theorem dX9_plan_143 : decode cX9_plan 143 = .ok (.iload_n 1, 1) := by decide +kernel
theorem dX9_plan_144 : decode cX9_plan 144 = .ok (.imul, 1) := by decide +kernel
theorem dX9_plan_145 : decode cX9_plan 145 = .ok (.iload 5, 2) := by decide +kernel
theorem dX9_plan_147 : decode cX9_plan 147 = .ok (.iadd, 1) := by decide +kernel
theorem dX9_plan_148 : decode cX9_plan 148 = .ok (.aload_n 0, 1) := by decide +kernel
theorem dX9_plan_149 : decode cX9_plan 149 = .ok (.getfield 144, 3) := by decide +kernel
theorem dX9_plan_152 : decode cX9_plan 152 = .ok (.iload 5, 2) := by decide +kernel
theorem dX9_plan_154 : decode cX9_plan 154 = .ok (.iaload, 1) := by decide +kernel
theorem dX9_plan_155 : decode cX9_plan 155 = .ok (.iastore, 1) := by decide +kernel
theorem dX9_plan_156 : decode cX9_plan 156 = .ok (.iinc 5 1, 3) := by decide +kernel
theorem dX9_plan_159 : decode cX9_plan 159 = .ok (.goto (-31), 3) := by decide +kernel
theorem dX9_plan_162 : decode cX9_plan 162 = .ok (.aload_n 0, 1) := by decide +kernel
theorem dX9_plan_163 : decode cX9_plan 163 = .ok (.getfield 126, 3) := by decide +kernel
theorem dX9_plan_166 : decode cX9_plan 166 = .ok (.iload_n 1, 1) := by decide +kernel
theorem dX9_plan_167 : decode cX9_plan 167 = .ok (.iconst 0, 1) := by decide +kernel
theorem dX9_plan_168 : decode cX9_plan 168 = .ok (.iastore, 1) := by decide +kernel
theorem dX9_plan_169 : decode cX9_plan 169 = .ok (.aload_n 0, 1) := by decide +kernel
theorem dX9_plan_170 : decode cX9_plan 170 = .ok (.getfield 129, 3) := by decide +kernel
theorem dX9_plan_173 : decode cX9_plan 173 = .ok (.iload_n 1, 1) := by decide +kernel
theorem dX9_plan_174 : decode cX9_plan 174 = .ok (.aload_n 0, 1) := by decide +kernel
theorem dX9_plan_175 : decode cX9_plan 175 = .ok (.getfield 249, 3) := by decide +kernel
theorem dX9_plan_178 : decode cX9_plan 178 = .ok (.iastore, 1) := by decide +kernel
theorem dX9_plan_179 : decode cX9_plan 179 = .ok (.aload_n 0, 1) := by decide +kernel
theorem dX9_plan_180 : decode cX9_plan 180 = .ok (.getfield 132, 3) := by decide +kernel
theorem dX9_plan_183 : decode cX9_plan 183 = .ok (.iload_n 1, 1) := by decide +kernel
theorem dX9_plan_184 : decode cX9_plan 184 = .ok (.iload_n 2, 1) := by decide +kernel
theorem dX9_plan_185 : decode cX9_plan 185 = .ok (.iastore, 1) := by decide +kernel
theorem dX9_plan_186 : decode cX9_plan 186 = .ok (.aload_n 0, 1) := by decide +kernel
theorem dX9_plan_187 : decode cX9_plan 187 = .ok (.getfield 135, 3) := by decide +kernel
theorem dX9_plan_190 : decode cX9_plan 190 = .ok (.iload_n 1, 1) := by decide +kernel
theorem dX9_plan_191 : decode cX9_plan 191 = .ok (.iload_n 3, 1) := by decide +kernel
theorem dX9_plan_192 : decode cX9_plan 192 = .ok (.iastore, 1) := by decide +kernel
theorem dX9_plan_193 : decode cX9_plan 193 = .ok (.aload_n 0, 1) := by decide +kernel
theorem dX9_plan_194 : decode cX9_plan 194 = .ok (.getfield 105, 3) := by decide +kernel
theorem dX9_plan_197 : decode cX9_plan 197 = .ok (.iload_n 1, 1) := by decide +kernel
theorem dX9_plan_198 : decode cX9_plan 198 = .ok (.iconst 1, 1) := by decide +kernel
theorem dX9_plan_199 : decode cX9_plan 199 = .ok (.iastore, 1) := by decide +kernel
theorem dX9_plan_200 : decode cX9_plan 200 = .ok (.aload_n 0, 1) := by decide +kernel
theorem dX9_plan_201 : decode cX9_plan 201 = .ok (.iconst 0, 1) := by decide +kernel
theorem dX9_plan_202 : decode cX9_plan 202 = .ok (.putfield 249, 3) := by decide +kernel
theorem dX9_plan_205 : decode cX9_plan 205 = .ok (.iload 4, 2) := by decide +kernel
theorem dX9_plan_207 : decode cX9_plan 207 = .ok (.ireturn, 1) := by decide +kernel
theorem dX9_await_0 : decode cX9_await 0 = .ok (.aload_n 0, 1) := by decide +kernel
theorem dX9_await_1 : decode cX9_await 1 = .ok (.aload_n 0, 1) := by decide +kernel
theorem dX9_await_2 : decode cX9_await 2 = .ok (.iload_n 1, 1) := by decide +kernel
theorem dX9_await_3 : decode cX9_await 3 = .ok (.invokevirtual 237, 3) := by decide +kernel
theorem dX9_await_6 : decode cX9_await 6 = .ok (.ifCond .eq 23, 3) := by decide +kernel
theorem dX9_await_9 : decode cX9_await 9 = .ok (.iload_n 2, 1) := by decide +kernel
theorem dX9_await_10 : decode cX9_await 10 = .ok (.iconst (-1), 1) := by decide +kernel
theorem dX9_await_11 : decode cX9_await 11 = .ok (.if_icmp .eq 11, 3) := by decide +kernel
theorem dX9_await_14 : decode cX9_await 14 = .ok (.aload_n 0, 1) := by decide +kernel
theorem dX9_await_15 : decode cX9_await 15 = .ok (.iload_n 2, 1) := by decide +kernel
theorem dX9_await_16 : decode cX9_await 16 = .ok (.invokevirtual 237, 3) := by decide +kernel
theorem dX9_await_19 : decode cX9_await 19 = .ok (.ifCond .eq 10, 3) := by decide +kernel
theorem dX9_await_22 : decode cX9_await 22 = .ok (.iload_n 3, 1) := by decide +kernel
theorem dX9_await_23 : decode cX9_await 23 = .ok (.invokestatic 193, 3) := by decide +kernel
theorem dX9_await_26 : decode cX9_await 26 = .ok (.ifCond .ne 7, 3) := by decide +kernel
theorem dX9_await_29 : decode cX9_await 29 = .ok (.iconst 1, 1) := by decide +kernel
theorem dX9_await_30 : decode cX9_await 30 = .ok (.goto 13, 3) := by decide +kernel
theorem dX9_await_33 : decode cX9_await 33 = .ok (.iload_n 1, 1) := by decide +kernel
theorem dX9_await_34 : decode cX9_await 34 = .ok (.iload_n 2, 1) := by decide +kernel
theorem dX9_await_35 : decode cX9_await 35 = .ok (.if_icmp .ne 7, 3) := by decide +kernel
theorem dX9_await_38 : decode cX9_await 38 = .ok (.iconst 2, 1) := by decide +kernel
theorem dX9_await_39 : decode cX9_await 39 = .ok (.goto 4, 3) := by decide +kernel
theorem dX9_await_42 : decode cX9_await 42 = .ok (.iconst 0, 1) := by decide +kernel
theorem dX9_await_43 : decode cX9_await 43 = .ok (.putfield 174, 3) := by decide +kernel
theorem dX9_await_46 : decode cX9_await 46 = .ok (.aload_n 0, 1) := by decide +kernel
theorem dX9_await_47 : decode cX9_await 47 = .ok (.getfield 174, 3) := by decide +kernel
theorem dX9_await_50 : decode cX9_await 50 = .ok (.ifCond .ne 17, 3) := by decide +kernel
theorem dX9_await_53 : decode cX9_await 53 = .ok (.aload_n 0, 1) := by decide +kernel
theorem dX9_await_54 : decode cX9_await 54 = .ok (.getfield 138, 3) := by decide +kernel
theorem dX9_await_57 : decode cX9_await 57 = .ok (.iload_n 1, 1) := by decide +kernel
theorem dX9_await_58 : decode cX9_await 58 = .ok (.iload_n 2, 1) := by decide +kernel
theorem dX9_await_59 : decode cX9_await 59 = .ok (.iastore, 1) := by decide +kernel
theorem dX9_await_60 : decode cX9_await 60 = .ok (.aload_n 0, 1) := by decide +kernel
theorem dX9_await_61 : decode cX9_await 61 = .ok (.getfield 141, 3) := by decide +kernel
theorem dX9_await_64 : decode cX9_await 64 = .ok (.iload_n 1, 1) := by decide +kernel
theorem dX9_await_65 : decode cX9_await 65 = .ok (.iload_n 3, 1) := by decide +kernel
theorem dX9_await_66 : decode cX9_await 66 = .ok (.iastore, 1) := by decide +kernel
theorem dX9_await_67 : decode cX9_await 67 = .ok (.return_, 1) := by decide +kernel
theorem dX9_weight_0 : decode cX9_weight 0 = .ok (.iconst 0, 1) := by decide +kernel
theorem dX9_weight_1 : decode cX9_weight 1 = .ok (.istore_n 2, 1) := by decide +kernel
theorem dX9_weight_2 : decode cX9_weight 2 = .ok (.bipush 10, 2) := by decide +kernel
theorem dX9_weight_4 : decode cX9_weight 4 = .ok (.iload_n 1, 1) := by decide +kernel
theorem dX9_weight_5 : decode cX9_weight 5 = .ok (.imul, 1) := by decide +kernel
theorem dX9_weight_6 : decode cX9_weight 6 = .ok (.istore_n 3, 1) := by decide +kernel
theorem dX9_weight_7 : decode cX9_weight 7 = .ok (.iload_n 3, 1) := by decide +kernel
theorem dX9_weight_8 : decode cX9_weight 8 = .ok (.bipush 10, 2) := by decide +kernel
theorem dX9_weight_10 : decode cX9_weight 10 = .ok (.iload_n 1, 1) := by decide +kernel
theorem dX9_weight_11 : decode cX9_weight 11 = .ok (.imul, 1) := by decide +kernel
theorem dX9_weight_12 : decode cX9_weight 12 = .ok (.aload_n 0, 1) := by decide +kernel
theorem dX9_weight_13 : decode cX9_weight 13 = .ok (.getfield 120, 3) := by decide +kernel
theorem dX9_weight_16 : decode cX9_weight 16 = .ok (.iload_n 1, 1) := by decide +kernel
theorem dX9_weight_17 : decode cX9_weight 17 = .ok (.iaload, 1) := by decide +kernel
theorem dX9_weight_18 : decode cX9_weight 18 = .ok (.iadd, 1) := by decide +kernel
theorem dX9_weight_19 : decode cX9_weight 19 = .ok (.if_icmp .ge 32, 3) := by decide +kernel
theorem dX9_weight_22 : decode cX9_weight 22 = .ok (.iload_n 2, 1) := by decide +kernel
theorem dX9_weight_23 : decode cX9_weight 23 = .ok (.aload_n 0, 1) := by decide +kernel
theorem dX9_weight_24 : decode cX9_weight 24 = .ok (.getfield 87, 3) := by decide +kernel
theorem dX9_weight_27 : decode cX9_weight 27 = .ok (.aload_n 0, 1) := by decide +kernel
theorem dX9_weight_28 : decode cX9_weight 28 = .ok (.getfield 117, 3) := by decide +kernel
theorem dX9_weight_31 : decode cX9_weight 31 = .ok (.iload_n 3, 1) := by decide +kernel
theorem dX9_weight_32 : decode cX9_weight 32 = .ok (.iaload, 1) := by decide +kernel
theorem dX9_weight_33 : decode cX9_weight 33 = .ok (.iaload, 1) := by decide +kernel
theorem dX9_weight_34 : decode cX9_weight 34 = .ok (.iconst (-1), 1) := by decide +kernel
theorem dX9_weight_35 : decode cX9_weight 35 = .ok (.if_icmp .ne 7, 3) := by decide +kernel
theorem dX9_weight_38 : decode cX9_weight 38 = .ok (.iconst 2, 1) := by decide +kernel
theorem dX9_weight_39 : decode cX9_weight 39 = .ok (.goto 4, 3) := by decide +kernel
theorem dX9_weight_42 : decode cX9_weight 42 = .ok (.iconst 5, 1) := by decide +kernel
theorem dX9_weight_43 : decode cX9_weight 43 = .ok (.iadd, 1) := by decide +kernel
theorem dX9_weight_44 : decode cX9_weight 44 = .ok (.istore_n 2, 1) := by decide +kernel
theorem dX9_weight_45 : decode cX9_weight 45 = .ok (.iinc 3 1, 3) := by decide +kernel
theorem dX9_weight_48 : decode cX9_weight 48 = .ok (.goto (-41), 3) := by decide +kernel
theorem dX9_weight_51 : decode cX9_weight 51 = .ok (.iload_n 2, 1) := by decide +kernel
theorem dX9_weight_52 : decode cX9_weight 52 = .ok (.ireturn, 1) := by decide +kernel
theorem dX9_runs_0 : decode cX9_runs 0 = .ok (.aload_n 0, 1) := by decide +kernel
theorem dX9_runs_1 : decode cX9_runs 1 = .ok (.getfield 20, 3) := by decide +kernel
theorem dX9_runs_4 : decode cX9_runs 4 = .ok (.iload_n 2, 1) := by decide +kernel
theorem dX9_runs_5 : decode cX9_runs 5 = .ok (.iaload, 1) := by decide +kernel
theorem dX9_runs_6 : decode cX9_runs 6 = .ok (.aload_n 0, 1) := by decide +kernel
theorem dX9_runs_7 : decode cX9_runs 7 = .ok (.getfield 20, 3) := by decide +kernel
theorem dX9_runs_10 : decode cX9_runs 10 = .ok (.iload_n 2, 1) := by decide +kernel
theorem dX9_runs_11 : decode cX9_runs 11 = .ok (.iaload, 1) := by decide +kernel
theorem dX9_runs_12 : decode cX9_runs 12 = .ok (.aload_n 0, 1) := by decide +kernel
theorem dX9_runs_13 : decode cX9_runs 13 = .ok (.iload_n 1, 1) := by decide +kernel
theorem dX9_runs_14 : decode cX9_runs 14 = .ok (.invokevirtual 256, 3) := by decide +kernel
theorem dX9_runs_17 : decode cX9_runs 17 = .ok (.imul, 1) := by decide +kernel
theorem dX9_runs_18 : decode cX9_runs 18 = .ok (.bipush 10, 2) := by decide +kernel
theorem dX9_runs_20 : decode cX9_runs 20 = .ok (.aload_n 0, 1) := by decide +kernel
theorem dX9_runs_21 : decode cX9_runs 21 = .ok (.getfield 54, 3) := by decide +kernel
theorem dX9_runs_24 : decode cX9_runs 24 = .ok (.aload_n 0, 1) := by decide +kernel
theorem dX9_runs_25 : decode cX9_runs 25 = .ok (.getfield 99, 3) := by decide +kernel
theorem dX9_runs_28 : decode cX9_runs 28 = .ok (.iload_n 1, 1) := by decide +kernel
theorem dX9_runs_29 : decode cX9_runs 29 = .ok (.iaload, 1) := by decide +kernel
theorem dX9_runs_30 : decode cX9_runs 30 = .ok (.iaload, 1) := by decide +kernel
theorem dX9_runs_31 : decode cX9_runs 31 = .ok (.imul, 1) := by decide +kernel
theorem dX9_runs_32 : decode cX9_runs 32 = .ok (.idiv, 1) := by decide +kernel
theorem dX9_runs_33 : decode cX9_runs 33 = .ok (.iadd, 1) := by decide +kernel
theorem dX9_runs_34 : decode cX9_runs 34 = .ok (.aload_n 0, 1) := by decide +kernel
theorem dX9_runs_35 : decode cX9_runs 35 = .ok (.getfield 26, 3) := by decide +kernel
theorem dX9_runs_38 : decode cX9_runs 38 = .ok (.iload_n 2, 1) := by decide +kernel
theorem dX9_runs_39 : decode cX9_runs 39 = .ok (.iaload, 1) := by decide +kernel
theorem dX9_runs_40 : decode cX9_runs 40 = .ok (.bipush 60, 2) := by decide +kernel
theorem dX9_runs_42 : decode cX9_runs 42 = .ok (.if_icmp .lt 12, 3) := by decide +kernel
theorem dX9_runs_45 : decode cX9_runs 45 = .ok (.aload_n 0, 1) := by decide +kernel
theorem dX9_runs_46 : decode cX9_runs 46 = .ok (.getfield 20, 3) := by decide +kernel
theorem dX9_runs_49 : decode cX9_runs 49 = .ok (.iload_n 2, 1) := by decide +kernel
theorem dX9_runs_50 : decode cX9_runs 50 = .ok (.iaload, 1) := by decide +kernel
theorem dX9_runs_51 : decode cX9_runs 51 = .ok (.goto 4, 3) := by decide +kernel
theorem dX9_runs_54 : decode cX9_runs 54 = .ok (.iconst 0, 1) := by decide +kernel
theorem dX9_runs_55 : decode cX9_runs 55 = .ok (.iadd, 1) := by decide +kernel
theorem dX9_runs_56 : decode cX9_runs 56 = .ok (.istore_n 3, 1) := by decide +kernel
theorem dX9_runs_57 : decode cX9_runs 57 = .ok (.aload_n 0, 1) := by decide +kernel
theorem dX9_runs_58 : decode cX9_runs 58 = .ok (.getfield 36, 3) := by decide +kernel
theorem dX9_runs_61 : decode cX9_runs 61 = .ok (.iload_n 2, 1) := by decide +kernel
theorem dX9_runs_62 : decode cX9_runs 62 = .ok (.baload, 1) := by decide +kernel
theorem dX9_runs_63 : decode cX9_runs 63 = .ok (.ifCond .eq 9, 3) := by decide +kernel
theorem dX9_runs_66 : decode cX9_runs 66 = .ok (.iconst 2, 1) := by decide +kernel
theorem dX9_runs_67 : decode cX9_runs 67 = .ok (.iload_n 3, 1) := by decide +kernel
theorem dX9_runs_68 : decode cX9_runs 68 = .ok (.imul, 1) := by decide +kernel
theorem dX9_runs_69 : decode cX9_runs 69 = .ok (.goto 4, 3) := by decide +kernel
theorem dX9_runs_72 : decode cX9_runs 72 = .ok (.iload_n 3, 1) := by decide +kernel
theorem dX9_runs_73 : decode cX9_runs 73 = .ok (.ireturn, 1) := by decide +kernel
theorem dX9_clears_0 : decode cX9_clears 0 = .ok (.aload_n 0, 1) := by decide +kernel
theorem dX9_clears_1 : decode cX9_clears 1 = .ok (.getfield 187, 3) := by decide +kernel
theorem dX9_clears_4 : decode cX9_clears 4 = .ok (.aload_n 0, 1) := by decide +kernel
theorem dX9_clears_5 : decode cX9_clears 5 = .ok (.iload_n 1, 1) := by decide +kernel
theorem dX9_clears_6 : decode cX9_clears 6 = .ok (.iload_n 2, 1) := by decide +kernel
theorem dX9_clears_7 : decode cX9_clears 7 = .ok (.invokevirtual 259, 3) := by decide +kernel
theorem dX9_clears_10 : decode cX9_clears 10 = .ok (.iadd, 1) := by decide +kernel
theorem dX9_clears_11 : decode cX9_clears 11 = .ok (.iconst 1, 1) := by decide +kernel
theorem dX9_clears_12 : decode cX9_clears 12 = .ok (.iadd, 1) := by decide +kernel
theorem dX9_clears_13 : decode cX9_clears 13 = .ok (.aload_n 0, 1) := by decide +kernel
theorem dX9_clears_14 : decode cX9_clears 14 = .ok (.getfield 120, 3) := by decide +kernel
theorem dX9_clears_17 : decode cX9_clears 17 = .ok (.iload_n 1, 1) := by decide +kernel
theorem dX9_clears_18 : decode cX9_clears 18 = .ok (.iaload, 1) := by decide +kernel
theorem dX9_clears_19 : decode cX9_clears 19 = .ok (.iconst 4, 1) := by decide +kernel
theorem dX9_clears_20 : decode cX9_clears 20 = .ok (.idiv, 1) := by decide +kernel
theorem dX9_clears_21 : decode cX9_clears 21 = .ok (.iadd, 1) := by decide +kernel
theorem dX9_clears_22 : decode cX9_clears 22 = .ok (.ireturn, 1) := by decide +kernel
theorem dX9_isOthers_0 : decode cX9_isOthers 0 = .ok (.iconst 0, 1) := by decide +kernel
theorem dX9_isOthers_1 : decode cX9_isOthers 1 = .ok (.istore_n 3, 1) := by decide +kernel
theorem dX9_isOthers_2 : decode cX9_isOthers 2 = .ok (.aload_n 0, 1) := by decide +kernel
theorem dX9_isOthers_3 : decode cX9_isOthers 3 = .ok (.getfield 187, 3) := by decide +kernel
theorem dX9_isOthers_6 : decode cX9_isOthers 6 = .ok (.istore 4, 2) := by decide +kernel
theorem dX9_isOthers_8 : decode cX9_isOthers 8 = .ok (.iload 4, 2) := by decide +kernel
theorem dX9_isOthers_10 : decode cX9_isOthers 10 = .ok (.aload_n 0, 1) := by decide +kernel
theorem dX9_isOthers_11 : decode cX9_isOthers 11 = .ok (.iload_n 1, 1) := by decide +kernel
theorem dX9_isOthers_12 : decode cX9_isOthers 12 = .ok (.iload_n 2, 1) := by decide +kernel
theorem dX9_isOthers_13 : decode cX9_isOthers 13 = .ok (.invokevirtual 262, 3) := by decide +kernel
theorem dX9_isOthers_16 : decode cX9_isOthers 16 = .ok (.if_icmp .ge 45, 3) := by decide +kernel
theorem dX9_isOthers_19 : decode cX9_isOthers 19 = .ok (.iload_n 3, 1) := by decide +kernel
theorem dX9_isOthers_20 : decode cX9_isOthers 20 = .ok (.ifCond .ne 29, 3) := by decide +kernel
theorem dX9_isOthers_23 : decode cX9_isOthers 23 = .ok (.iload 4, 2) := by decide +kernel
theorem dX9_isOthers_25 : decode cX9_isOthers 25 = .ok (.sipush 1440, 3) := by decide +kernel
theorem dX9_isOthers_28 : decode cX9_isOthers 28 = .ok (.irem, 1) := by decide +kernel
theorem dX9_isOthers_29 : decode cX9_isOthers 29 = .ok (.aload_n 0, 1) := by decide +kernel
theorem dX9_isOthers_30 : decode cX9_isOthers 30 = .ok (.getfield 42, 3) := by decide +kernel
theorem dX9_isOthers_33 : decode cX9_isOthers 33 = .ok (.iload_n 2, 1) := by decide +kernel
theorem dX9_isOthers_34 : decode cX9_isOthers 34 = .ok (.iaload, 1) := by decide +kernel
theorem dX9_isOthers_35 : decode cX9_isOthers 35 = .ok (.aload_n 0, 1) := by decide +kernel
theorem dX9_isOthers_36 : decode cX9_isOthers 36 = .ok (.getfield 45, 3) := by decide +kernel
theorem dX9_isOthers_39 : decode cX9_isOthers 39 = .ok (.iload_n 2, 1) := by decide +kernel
theorem dX9_isOthers_40 : decode cX9_isOthers 40 = .ok (.iaload, 1) := by decide +kernel
theorem dX9_isOthers_41 : decode cX9_isOthers 41 = .ok (.iconst 1, 1) := by decide +kernel
theorem dX9_isOthers_42 : decode cX9_isOthers 42 = .ok (.isub, 1) := by decide +kernel
theorem dX9_isOthers_43 : decode cX9_isOthers 43 = .ok (.invokestatic 177, 3) := by decide +kernel
theorem dX9_isOthers_46 : decode cX9_isOthers 46 = .ok (.ifCond .eq 7, 3) := by decide +kernel
theorem dX9_isOthers_49 : decode cX9_isOthers 49 = .ok (.iconst 1, 1) := by decide +kernel
theorem dX9_isOthers_50 : decode cX9_isOthers 50 = .ok (.goto 4, 3) := by decide +kernel
theorem dX9_isOthers_53 : decode cX9_isOthers 53 = .ok (.iconst 0, 1) := by decide +kernel
theorem dX9_isOthers_54 : decode cX9_isOthers 54 = .ok (.istore_n 3, 1) := by decide +kernel
theorem dX9_isOthers_55 : decode cX9_isOthers 55 = .ok (.iinc 4 1, 3) := by decide +kernel
theorem dX9_isOthers_58 : decode cX9_isOthers 58 = .ok (.goto (-50), 3) := by decide +kernel
theorem dX9_isOthers_61 : decode cX9_isOthers 61 = .ok (.iload_n 3, 1) := by decide +kernel
theorem dX9_isOthers_62 : decode cX9_isOthers 62 = .ok (.ireturn, 1) := by decide +kernel
theorem dX9_bars_0 : decode cX9_bars 0 = .ok (.aload_n 0, 1) := by decide +kernel
theorem dX9_bars_1 : decode cX9_bars 1 = .ok (.getfield 123, 3) := by decide +kernel
theorem dX9_bars_4 : decode cX9_bars 4 = .ok (.bipush 8, 2) := by decide +kernel
theorem dX9_bars_6 : decode cX9_bars 6 = .ok (.iload_n 1, 1) := by decide +kernel
theorem dX9_bars_7 : decode cX9_bars 7 = .ok (.imul, 1) := by decide +kernel
theorem dX9_bars_8 : decode cX9_bars 8 = .ok (.aload_n 0, 1) := by decide +kernel
theorem dX9_bars_9 : decode cX9_bars 9 = .ok (.getfield 126, 3) := by decide +kernel
theorem dX9_bars_12 : decode cX9_bars 12 = .ok (.iload_n 1, 1) := by decide +kernel
theorem dX9_bars_13 : decode cX9_bars 13 = .ok (.iaload, 1) := by decide +kernel
theorem dX9_bars_14 : decode cX9_bars 14 = .ok (.iadd, 1) := by decide +kernel
theorem dX9_bars_15 : decode cX9_bars 15 = .ok (.iaload, 1) := by decide +kernel
theorem dX9_bars_16 : decode cX9_bars 16 = .ok (.istore_n 3, 1) := by decide +kernel
theorem dX9_bars_17 : decode cX9_bars 17 = .ok (.aload_n 0, 1) := by decide +kernel
theorem dX9_bars_18 : decode cX9_bars 18 = .ok (.getfield 102, 3) := by decide +kernel
theorem dX9_bars_21 : decode cX9_bars 21 = .ok (.iload_n 1, 1) := by decide +kernel
theorem dX9_bars_22 : decode cX9_bars 22 = .ok (.iaload, 1) := by decide +kernel
theorem dX9_bars_23 : decode cX9_bars 23 = .ok (.istore 4, 2) := by decide +kernel
theorem dX9_bars_25 : decode cX9_bars 25 = .ok (.aload_n 0, 1) := by decide +kernel
theorem dX9_bars_26 : decode cX9_bars 26 = .ok (.getfield 138, 3) := by decide +kernel
theorem dX9_bars_29 : decode cX9_bars 29 = .ok (.iload_n 1, 1) := by decide +kernel
theorem dX9_bars_30 : decode cX9_bars 30 = .ok (.iaload, 1) := by decide +kernel
theorem dX9_bars_31 : decode cX9_bars 31 = .ok (.istore 5, 2) := by decide +kernel
theorem dX9_bars_33 : decode cX9_bars 33 = .ok (.aload_n 0, 1) := by decide +kernel
theorem dX9_bars_34 : decode cX9_bars 34 = .ok (.iload_n 3, 1) := by decide +kernel
theorem dX9_bars_35 : decode cX9_bars 35 = .ok (.aload_n 0, 1) := by decide +kernel
theorem dX9_bars_36 : decode cX9_bars 36 = .ok (.getfield 108, 3) := by decide +kernel
theorem dX9_bars_39 : decode cX9_bars 39 = .ok (.iload_n 1, 1) := by decide +kernel
theorem dX9_bars_40 : decode cX9_bars 40 = .ok (.iaload, 1) := by decide +kernel
theorem dX9_bars_41 : decode cX9_bars 41 = .ok (.invokevirtual 252, 3) := by decide +kernel
theorem dX9_bars_44 : decode cX9_bars 44 = .ok (.istore 6, 2) := by decide +kernel
theorem dX9_bars_46 : decode cX9_bars 46 = .ok (.iload_n 2, 1) := by decide +kernel
theorem dX9_bars_47 : decode cX9_bars 47 = .ok (.tableswitch 285 1 9 #[49, 77, 139, 155, 161, 185, 192, 229, 250], 49) := by decide +kernel
theorem dX9_bars_96 : decode cX9_bars 96 = .ok (.aload_n 0, 1) := by decide +kernel
theorem dX9_bars_97 : decode cX9_bars 97 = .ok (.getfield 126, 3) := by decide +kernel
theorem dX9_bars_100 : decode cX9_bars 100 = .ok (.iload_n 1, 1) := by decide +kernel
theorem dX9_bars_101 : decode cX9_bars 101 = .ok (.iaload, 1) := by decide +kernel
theorem dX9_bars_102 : decode cX9_bars 102 = .ok (.ifCond .ne 20, 3) := by decide +kernel
theorem dX9_bars_105 : decode cX9_bars 105 = .ok (.aload_n 0, 1) := by decide +kernel
theorem dX9_bars_106 : decode cX9_bars 106 = .ok (.getfield 187, 3) := by decide +kernel
theorem dX9_bars_109 : decode cX9_bars 109 = .ok (.aload_n 0, 1) := by decide +kernel
theorem dX9_bars_110 : decode cX9_bars 110 = .ok (.getfield 132, 3) := by decide +kernel
theorem dX9_bars_113 : decode cX9_bars 113 = .ok (.iload_n 1, 1) := by decide +kernel
theorem dX9_bars_114 : decode cX9_bars 114 = .ok (.iaload, 1) := by decide +kernel
theorem dX9_bars_115 : decode cX9_bars 115 = .ok (.if_icmp .ge 7, 3) := by decide +kernel
theorem dX9_bars_118 : decode cX9_bars 118 = .ok (.iconst 1, 1) := by decide +kernel
theorem dX9_bars_119 : decode cX9_bars 119 = .ok (.goto 4, 3) := by decide +kernel
theorem dX9_bars_122 : decode cX9_bars 122 = .ok (.iconst 0, 1) := by decide +kernel
theorem dX9_bars_123 : decode cX9_bars 123 = .ok (.ireturn, 1) := by decide +kernel
theorem dX9_bars_124 : decode cX9_bars 124 = .ok (.iload 5, 2) := by decide +kernel
theorem dX9_bars_126 : decode cX9_bars 126 = .ok (.iconst (-1), 1) := by decide +kernel
theorem dX9_bars_127 : decode cX9_bars 127 = .ok (.if_icmp .eq 57, 3) := by decide +kernel
theorem dX9_bars_130 : decode cX9_bars 130 = .ok (.aload_n 0, 1) := by decide +kernel
theorem dX9_bars_131 : decode cX9_bars 131 = .ok (.getfield 141, 3) := by decide +kernel
theorem dX9_bars_134 : decode cX9_bars 134 = .ok (.iload_n 1, 1) := by decide +kernel
theorem dX9_bars_135 : decode cX9_bars 135 = .ok (.iaload, 1) := by decide +kernel
theorem dX9_bars_136 : decode cX9_bars 136 = .ok (.aload_n 0, 1) := by decide +kernel
theorem dX9_bars_137 : decode cX9_bars 137 = .ok (.getfield 108, 3) := by decide +kernel
theorem dX9_bars_140 : decode cX9_bars 140 = .ok (.iload_n 1, 1) := by decide +kernel
theorem dX9_bars_141 : decode cX9_bars 141 = .ok (.iaload, 1) := by decide +kernel
theorem dX9_bars_142 : decode cX9_bars 142 = .ok (.if_icmp .ne 42, 3) := by decide +kernel
theorem dX9_bars_145 : decode cX9_bars 145 = .ok (.aload_n 0, 1) := by decide +kernel
theorem dX9_bars_146 : decode cX9_bars 146 = .ok (.getfield 96, 3) := by decide +kernel
theorem dX9_bars_149 : decode cX9_bars 149 = .ok (.iload 5, 2) := by decide +kernel
theorem dX9_bars_151 : decode cX9_bars 151 = .ok (.baload, 1) := by decide +kernel
theorem dX9_bars_152 : decode cX9_bars 152 = .ok (.ifCond .eq 28, 3) := by decide +kernel
theorem dX9_bars_155 : decode cX9_bars 155 = .ok (.aload_n 0, 1) := by decide +kernel
theorem dX9_bars_156 : decode cX9_bars 156 = .ok (.iload 5, 2) := by decide +kernel
theorem dX9_bars_158 : decode cX9_bars 158 = .ok (.invokevirtual 219, 3) := by decide +kernel
theorem dX9_bars_161 : decode cX9_bars 161 = .ok (.ifCond .eq 19, 3) := by decide +kernel
theorem dX9_bars_164 : decode cX9_bars 164 = .ok (.aload_n 0, 1) := by decide +kernel
theorem dX9_bars_165 : decode cX9_bars 165 = .ok (.getfield 108, 3) := by decide +kernel
theorem dX9_bars_168 : decode cX9_bars 168 = .ok (.iload 5, 2) := by decide +kernel
theorem dX9_bars_170 : decode cX9_bars 170 = .ok (.iaload, 1) := by decide +kernel
theorem dX9_bars_171 : decode cX9_bars 171 = .ok (.aload_n 0, 1) := by decide +kernel
theorem dX9_bars_172 : decode cX9_bars 172 = .ok (.getfield 108, 3) := by decide +kernel
theorem dX9_bars_175 : decode cX9_bars 175 = .ok (.iload_n 1, 1) := by decide +kernel
theorem dX9_bars_176 : decode cX9_bars 176 = .ok (.iaload, 1) := by decide +kernel
theorem dX9_bars_177 : decode cX9_bars 177 = .ok (.if_icmp .eq 7, 3) := by decide +kernel
theorem dX9_bars_180 : decode cX9_bars 180 = .ok (.iconst 1, 1) := by decide +kernel
theorem dX9_bars_181 : decode cX9_bars 181 = .ok (.goto 4, 3) := by decide +kernel
theorem dX9_bars_184 : decode cX9_bars 184 = .ok (.iconst 0, 1) := by decide +kernel
theorem dX9_bars_185 : decode cX9_bars 185 = .ok (.ireturn, 1) := by decide +kernel
theorem dX9_bars_186 : decode cX9_bars 186 = .ok (.aload_n 0, 1) := by decide +kernel
theorem dX9_bars_187 : decode cX9_bars 187 = .ok (.getfield 48, 3) := by decide +kernel
theorem dX9_bars_190 : decode cX9_bars 190 = .ok (.iload_n 3, 1) := by decide +kernel
theorem dX9_bars_191 : decode cX9_bars 191 = .ok (.iaload, 1) := by decide +kernel
theorem dX9_bars_192 : decode cX9_bars 192 = .ok (.iconst (-1), 1) := by decide +kernel
theorem dX9_bars_193 : decode cX9_bars 193 = .ok (.if_icmp .eq 7, 3) := by decide +kernel
theorem dX9_bars_196 : decode cX9_bars 196 = .ok (.iconst 1, 1) := by decide +kernel
theorem dX9_bars_197 : decode cX9_bars 197 = .ok (.goto 4, 3) := by decide +kernel
theorem dX9_bars_200 : decode cX9_bars 200 = .ok (.iconst 0, 1) := by decide +kernel
theorem dX9_bars_201 : decode cX9_bars 201 = .ok (.ireturn, 1) := by decide +kernel
theorem dX9_bars_202 : decode cX9_bars 202 = .ok (.aload_n 0, 1) := by decide +kernel
theorem dX9_bars_203 : decode cX9_bars 203 = .ok (.iload_n 3, 1) := by decide +kernel
theorem dX9_bars_204 : decode cX9_bars 204 = .ok (.invokevirtual 204, 3) := by decide +kernel
theorem dX9_bars_207 : decode cX9_bars 207 = .ok (.ireturn, 1) := by decide +kernel
theorem dX9_bars_208 : decode cX9_bars 208 = .ok (.aload_n 0, 1) := by decide +kernel
theorem dX9_bars_209 : decode cX9_bars 209 = .ok (.getfield 36, 3) := by decide +kernel
theorem dX9_bars_212 : decode cX9_bars 212 = .ok (.iload_n 3, 1) := by decide +kernel
theorem dX9_bars_213 : decode cX9_bars 213 = .ok (.baload, 1) := by decide +kernel
theorem dX9_bars_214 : decode cX9_bars 214 = .ok (.ifCond .eq 16, 3) := by decide +kernel
theorem dX9_bars_217 : decode cX9_bars 217 = .ok (.aload_n 0, 1) := by decide +kernel
theorem dX9_bars_218 : decode cX9_bars 218 = .ok (.getfield 39, 3) := by decide +kernel
theorem dX9_bars_221 : decode cX9_bars 221 = .ok (.iload_n 3, 1) := by decide +kernel
theorem dX9_bars_222 : decode cX9_bars 222 = .ok (.baload, 1) := by decide +kernel
theorem dX9_bars_223 : decode cX9_bars 223 = .ok (.ifCond .ne 7, 3) := by decide +kernel
theorem dX9_bars_226 : decode cX9_bars 226 = .ok (.iconst 1, 1) := by decide +kernel
theorem dX9_bars_227 : decode cX9_bars 227 = .ok (.goto 4, 3) := by decide +kernel
theorem dX9_bars_230 : decode cX9_bars 230 = .ok (.iconst 0, 1) := by decide +kernel
theorem dX9_bars_231 : decode cX9_bars 231 = .ok (.ireturn, 1) := by decide +kernel
theorem dX9_bars_232 : decode cX9_bars 232 = .ok (.aload_n 0, 1) := by decide +kernel
theorem dX9_bars_233 : decode cX9_bars 233 = .ok (.iload_n 1, 1) := by decide +kernel
theorem dX9_bars_234 : decode cX9_bars 234 = .ok (.iload_n 3, 1) := by decide +kernel
theorem dX9_bars_235 : decode cX9_bars 235 = .ok (.invokevirtual 265, 3) := by decide +kernel
theorem dX9_bars_238 : decode cX9_bars 238 = .ok (.ireturn, 1) := by decide +kernel
theorem dX9_bars_239 : decode cX9_bars 239 = .ok (.aload_n 0, 1) := by decide +kernel
theorem dX9_bars_240 : decode cX9_bars 240 = .ok (.iload_n 1, 1) := by decide +kernel
theorem dX9_bars_241 : decode cX9_bars 241 = .ok (.invokevirtual 256, 3) := by decide +kernel
theorem dX9_bars_244 : decode cX9_bars 244 = .ok (.aload_n 0, 1) := by decide +kernel
theorem dX9_bars_245 : decode cX9_bars 245 = .ok (.getfield 54, 3) := by decide +kernel
theorem dX9_bars_248 : decode cX9_bars 248 = .ok (.aload_n 0, 1) := by decide +kernel
theorem dX9_bars_249 : decode cX9_bars 249 = .ok (.getfield 99, 3) := by decide +kernel
theorem dX9_bars_252 : decode cX9_bars 252 = .ok (.iload_n 1, 1) := by decide +kernel
theorem dX9_bars_253 : decode cX9_bars 253 = .ok (.iaload, 1) := by decide +kernel
theorem dX9_bars_254 : decode cX9_bars 254 = .ok (.iaload, 1) := by decide +kernel
theorem dX9_bars_255 : decode cX9_bars 255 = .ok (.bipush 8, 2) := by decide +kernel
theorem dX9_bars_257 : decode cX9_bars 257 = .ok (.iconst 2, 1) := by decide +kernel
theorem dX9_bars_258 : decode cX9_bars 258 = .ok (.aload_n 0, 1) := by decide +kernel
theorem dX9_bars_259 : decode cX9_bars 259 = .ok (.getfield 23, 3) := by decide +kernel
theorem dX9_bars_262 : decode cX9_bars 262 = .ok (.iload_n 3, 1) := by decide +kernel
theorem dX9_bars_263 : decode cX9_bars 263 = .ok (.iaload, 1) := by decide +kernel
theorem dX9_bars_264 : decode cX9_bars 264 = .ok (.imul, 1) := by decide +kernel
theorem dX9_bars_265 : decode cX9_bars 265 = .ok (.isub, 1) := by decide +kernel
theorem dX9_bars_266 : decode cX9_bars 266 = .ok (.imul, 1) := by decide +kernel
theorem dX9_bars_267 : decode cX9_bars 267 = .ok (.if_icmp .le 7, 3) := by decide +kernel
theorem dX9_bars_270 : decode cX9_bars 270 = .ok (.iconst 1, 1) := by decide +kernel
theorem dX9_bars_271 : decode cX9_bars 271 = .ok (.goto 4, 3) := by decide +kernel
theorem dX9_bars_274 : decode cX9_bars 274 = .ok (.iconst 0, 1) := by decide +kernel
theorem dX9_bars_275 : decode cX9_bars 275 = .ok (.ireturn, 1) := by decide +kernel
theorem dX9_bars_276 : decode cX9_bars 276 = .ok (.aload_n 0, 1) := by decide +kernel
theorem dX9_bars_277 : decode cX9_bars 277 = .ok (.getfield 75, 3) := by decide +kernel
theorem dX9_bars_280 : decode cX9_bars 280 = .ok (.bipush 16, 2) := by decide +kernel
theorem dX9_bars_282 : decode cX9_bars 282 = .ok (.iload 4, 2) := by decide +kernel
theorem dX9_bars_284 : decode cX9_bars 284 = .ok (.imul, 1) := by decide +kernel
theorem dX9_bars_285 : decode cX9_bars 285 = .ok (.iload_n 3, 1) := by decide +kernel
theorem dX9_bars_286 : decode cX9_bars 286 = .ok (.iadd, 1) := by decide +kernel
theorem dX9_bars_287 : decode cX9_bars 287 = .ok (.baload, 1) := by decide +kernel
theorem dX9_bars_288 : decode cX9_bars 288 = .ok (.ifCond .ne 7, 3) := by decide +kernel
theorem dX9_bars_291 : decode cX9_bars 291 = .ok (.iconst 1, 1) := by decide +kernel
theorem dX9_bars_292 : decode cX9_bars 292 = .ok (.goto 4, 3) := by decide +kernel
theorem dX9_bars_295 : decode cX9_bars 295 = .ok (.iconst 0, 1) := by decide +kernel
theorem dX9_bars_296 : decode cX9_bars 296 = .ok (.ireturn, 1) := by decide +kernel
theorem dX9_bars_297 : decode cX9_bars 297 = .ok (.aload_n 0, 1) := by decide +kernel
theorem dX9_bars_298 : decode cX9_bars 298 = .ok (.iload 4, 2) := by decide +kernel
theorem dX9_bars_300 : decode cX9_bars 300 = .ok (.invokevirtual 216, 3) := by decide +kernel
theorem dX9_bars_303 : decode cX9_bars 303 = .ok (.ifCond .ne 23, 3) := by decide +kernel
theorem dX9_bars_306 : decode cX9_bars 306 = .ok (.aload_n 0, 1) := by decide +kernel
theorem dX9_bars_307 : decode cX9_bars 307 = .ok (.getfield 69, 3) := by decide +kernel
theorem dX9_bars_310 : decode cX9_bars 310 = .ok (.iload 4, 2) := by decide +kernel
theorem dX9_bars_312 : decode cX9_bars 312 = .ok (.iaload, 1) := by decide +kernel
theorem dX9_bars_313 : decode cX9_bars 313 = .ok (.aload_n 0, 1) := by decide +kernel
theorem dX9_bars_314 : decode cX9_bars 314 = .ok (.iload_n 1, 1) := by decide +kernel
theorem dX9_bars_315 : decode cX9_bars 315 = .ok (.iload_n 3, 1) := by decide +kernel
theorem dX9_bars_316 : decode cX9_bars 316 = .ok (.invokevirtual 259, 3) := by decide +kernel
theorem dX9_bars_319 : decode cX9_bars 319 = .ok (.iadd, 1) := by decide +kernel
theorem dX9_bars_320 : decode cX9_bars 320 = .ok (.sipush 600, 3) := by decide +kernel
theorem dX9_bars_323 : decode cX9_bars 323 = .ok (.if_icmp .le 7, 3) := by decide +kernel
theorem dX9_bars_326 : decode cX9_bars 326 = .ok (.iconst 1, 1) := by decide +kernel
theorem dX9_bars_327 : decode cX9_bars 327 = .ok (.goto 4, 3) := by decide +kernel
theorem dX9_bars_330 : decode cX9_bars 330 = .ok (.iconst 0, 1) := by decide +kernel
theorem dX9_bars_331 : decode cX9_bars 331 = .ok (.ireturn, 1) := by decide +kernel
theorem dX9_bars_332 : decode cX9_bars 332 = .ok (.aload_n 0, 1) := by decide +kernel
theorem dX9_bars_333 : decode cX9_bars 333 = .ok (.iload 6, 2) := by decide +kernel
theorem dX9_bars_335 : decode cX9_bars 335 = .ok (.invokevirtual 197, 3) := by decide +kernel
theorem dX9_bars_338 : decode cX9_bars 338 = .ok (.aload_n 0, 1) := by decide +kernel
theorem dX9_bars_339 : decode cX9_bars 339 = .ok (.getfield 13, 3) := by decide +kernel
theorem dX9_bars_342 : decode cX9_bars 342 = .ok (.iload 6, 2) := by decide +kernel
theorem dX9_bars_344 : decode cX9_bars 344 = .ok (.iaload, 1) := by decide +kernel
theorem dX9_bars_345 : decode cX9_bars 345 = .ok (.if_icmp .lt 7, 3) := by decide +kernel
theorem dX9_bars_348 : decode cX9_bars 348 = .ok (.iconst 1, 1) := by decide +kernel
theorem dX9_bars_349 : decode cX9_bars 349 = .ok (.goto 4, 3) := by decide +kernel
theorem dX9_bars_352 : decode cX9_bars 352 = .ok (.iconst 0, 1) := by decide +kernel
theorem dX9_bars_353 : decode cX9_bars 353 = .ok (.ireturn, 1) := by decide +kernel
theorem dX9_bar_0 : decode cX9_bar 0 = .ok (.iconst 0, 1) := by decide +kernel
theorem dX9_bar_1 : decode cX9_bar 1 = .ok (.istore_n 3, 1) := by decide +kernel
theorem dX9_bar_2 : decode cX9_bar 2 = .ok (.iload_n 2, 1) := by decide +kernel
theorem dX9_bar_3 : decode cX9_bar 3 = .ok (.istore 4, 2) := by decide +kernel
theorem dX9_bar_5 : decode cX9_bar 5 = .ok (.iload 4, 2) := by decide +kernel
theorem dX9_bar_7 : decode cX9_bar 7 = .ok (.bipush 10, 2) := by decide +kernel
theorem dX9_bar_9 : decode cX9_bar 9 = .ok (.if_icmp .gt 30, 3) := by decide +kernel
theorem dX9_bar_12 : decode cX9_bar 12 = .ok (.iload_n 3, 1) := by decide +kernel
theorem dX9_bar_13 : decode cX9_bar 13 = .ok (.ifCond .ne 26, 3) := by decide +kernel
theorem dX9_bar_16 : decode cX9_bar 16 = .ok (.aload_n 0, 1) := by decide +kernel
theorem dX9_bar_17 : decode cX9_bar 17 = .ok (.iload_n 1, 1) := by decide +kernel
theorem dX9_bar_18 : decode cX9_bar 18 = .ok (.iload 4, 2) := by decide +kernel
theorem dX9_bar_20 : decode cX9_bar 20 = .ok (.invokevirtual 269, 3) := by decide +kernel
theorem dX9_bar_23 : decode cX9_bar 23 = .ok (.ifCond .eq 8, 3) := by decide +kernel
theorem dX9_bar_26 : decode cX9_bar 26 = .ok (.iload 4, 2) := by decide +kernel
theorem dX9_bar_28 : decode cX9_bar 28 = .ok (.goto 4, 3) := by decide +kernel
theorem dX9_bar_31 : decode cX9_bar 31 = .ok (.iconst 0, 1) := by decide +kernel
theorem dX9_bar_32 : decode cX9_bar 32 = .ok (.istore_n 3, 1) := by decide +kernel
theorem dX9_bar_33 : decode cX9_bar 33 = .ok (.iinc 4 1, 3) := by decide +kernel
theorem dX9_bar_36 : decode cX9_bar 36 = .ok (.goto (-31), 3) := by decide +kernel
theorem dX9_bar_39 : decode cX9_bar 39 = .ok (.iload_n 3, 1) := by decide +kernel
theorem dX9_bar_40 : decode cX9_bar 40 = .ok (.ireturn, 1) := by decide +kernel
theorem dX9_enters_0 : decode cX9_enters 0 = .ok (.aload_n 0, 1) := by decide +kernel
theorem dX9_enters_1 : decode cX9_enters 1 = .ok (.getfield 123, 3) := by decide +kernel
theorem dX9_enters_4 : decode cX9_enters 4 = .ok (.bipush 8, 2) := by decide +kernel
theorem dX9_enters_6 : decode cX9_enters 6 = .ok (.iload_n 1, 1) := by decide +kernel
theorem dX9_enters_7 : decode cX9_enters 7 = .ok (.imul, 1) := by decide +kernel
theorem dX9_enters_8 : decode cX9_enters 8 = .ok (.aload_n 0, 1) := by decide +kernel
theorem dX9_enters_9 : decode cX9_enters 9 = .ok (.getfield 126, 3) := by decide +kernel
theorem dX9_enters_12 : decode cX9_enters 12 = .ok (.iload_n 1, 1) := by decide +kernel
theorem dX9_enters_13 : decode cX9_enters 13 = .ok (.iaload, 1) := by decide +kernel
theorem dX9_enters_14 : decode cX9_enters 14 = .ok (.iadd, 1) := by decide +kernel
theorem dX9_enters_15 : decode cX9_enters 15 = .ok (.iaload, 1) := by decide +kernel
theorem dX9_enters_16 : decode cX9_enters 16 = .ok (.istore_n 2, 1) := by decide +kernel
theorem dX9_enters_17 : decode cX9_enters 17 = .ok (.aload_n 0, 1) := by decide +kernel
theorem dX9_enters_18 : decode cX9_enters 18 = .ok (.iload_n 1, 1) := by decide +kernel
theorem dX9_enters_19 : decode cX9_enters 19 = .ok (.iload_n 2, 1) := by decide +kernel
theorem dX9_enters_20 : decode cX9_enters 20 = .ok (.invokevirtual 259, 3) := by decide +kernel
theorem dX9_enters_23 : decode cX9_enters 23 = .ok (.istore_n 3, 1) := by decide +kernel
theorem dX9_enters_24 : decode cX9_enters 24 = .ok (.aload_n 0, 1) := by decide +kernel
theorem dX9_enters_25 : decode cX9_enters 25 = .ok (.getfield 48, 3) := by decide +kernel
theorem dX9_enters_28 : decode cX9_enters 28 = .ok (.iload_n 2, 1) := by decide +kernel
theorem dX9_enters_29 : decode cX9_enters 29 = .ok (.iload_n 1, 1) := by decide +kernel
theorem dX9_enters_30 : decode cX9_enters 30 = .ok (.iastore, 1) := by decide +kernel
theorem dX9_enters_31 : decode cX9_enters 31 = .ok (.aload_n 0, 1) := by decide +kernel
theorem dX9_enters_32 : decode cX9_enters 32 = .ok (.getfield 51, 3) := by decide +kernel
theorem dX9_enters_35 : decode cX9_enters 35 = .ok (.iload_n 2, 1) := by decide +kernel
theorem dX9_enters_36 : decode cX9_enters 36 = .ok (.aload_n 0, 1) := by decide +kernel
theorem dX9_enters_37 : decode cX9_enters 37 = .ok (.iload_n 1, 1) := by decide +kernel
theorem dX9_enters_38 : decode cX9_enters 38 = .ok (.iload_n 2, 1) := by decide +kernel
theorem dX9_enters_39 : decode cX9_enters 39 = .ok (.invokevirtual 262, 3) := by decide +kernel
theorem dX9_enters_42 : decode cX9_enters 42 = .ok (.iastore, 1) := by decide +kernel
theorem dX9_enters_43 : decode cX9_enters 43 = .ok (.aload_n 0, 1) := by decide +kernel
theorem dX9_enters_44 : decode cX9_enters 44 = .ok (.getfield 39, 3) := by decide +kernel
theorem dX9_enters_47 : decode cX9_enters 47 = .ok (.iload_n 2, 1) := by decide +kernel
theorem dX9_enters_48 : decode cX9_enters 48 = .ok (.iconst 0, 1) := by decide +kernel
theorem dX9_enters_49 : decode cX9_enters 49 = .ok (.bastore, 1) := by decide +kernel
theorem dX9_enters_50 : decode cX9_enters 50 = .ok (.aload_n 0, 1) := by decide +kernel
theorem dX9_enters_51 : decode cX9_enters 51 = .ok (.getfield 69, 3) := by decide +kernel
theorem dX9_enters_54 : decode cX9_enters 54 = .ok (.aload_n 0, 1) := by decide +kernel
theorem dX9_enters_55 : decode cX9_enters 55 = .ok (.getfield 102, 3) := by decide +kernel
theorem dX9_enters_58 : decode cX9_enters 58 = .ok (.iload_n 1, 1) := by decide +kernel
theorem dX9_enters_59 : decode cX9_enters 59 = .ok (.iaload, 1) := by decide +kernel
theorem dX9_enters_60 : decode cX9_enters 60 = .ok (.dup2, 1) := by decide +kernel
theorem dX9_enters_61 : decode cX9_enters 61 = .ok (.iaload, 1) := by decide +kernel
theorem dX9_enters_62 : decode cX9_enters 62 = .ok (.iload_n 3, 1) := by decide +kernel
theorem dX9_enters_63 : decode cX9_enters 63 = .ok (.iadd, 1) := by decide +kernel
theorem dX9_enters_64 : decode cX9_enters 64 = .ok (.iastore, 1) := by decide +kernel
theorem dX9_enters_65 : decode cX9_enters 65 = .ok (.aload_n 0, 1) := by decide +kernel
theorem dX9_enters_66 : decode cX9_enters 66 = .ok (.getfield 114, 3) := by decide +kernel
theorem dX9_enters_69 : decode cX9_enters 69 = .ok (.iload_n 1, 1) := by decide +kernel
theorem dX9_enters_70 : decode cX9_enters 70 = .ok (.aload_n 0, 1) := by decide +kernel
theorem dX9_enters_71 : decode cX9_enters 71 = .ok (.getfield 187, 3) := by decide +kernel
theorem dX9_enters_74 : decode cX9_enters 74 = .ok (.iload_n 3, 1) := by decide +kernel
theorem dX9_enters_75 : decode cX9_enters 75 = .ok (.iadd, 1) := by decide +kernel
theorem dX9_enters_76 : decode cX9_enters 76 = .ok (.iastore, 1) := by decide +kernel
theorem dX9_enters_77 : decode cX9_enters 77 = .ok (.aload_n 0, 1) := by decide +kernel
theorem dX9_enters_78 : decode cX9_enters 78 = .ok (.getfield 138, 3) := by decide +kernel
theorem dX9_enters_81 : decode cX9_enters 81 = .ok (.iload_n 1, 1) := by decide +kernel
theorem dX9_enters_82 : decode cX9_enters 82 = .ok (.aload_n 0, 1) := by decide +kernel
theorem dX9_enters_83 : decode cX9_enters 83 = .ok (.getfield 141, 3) := by decide +kernel
theorem dX9_enters_86 : decode cX9_enters 86 = .ok (.iload_n 1, 1) := by decide +kernel
theorem dX9_enters_87 : decode cX9_enters 87 = .ok (.iaload, 1) := by decide +kernel
theorem dX9_enters_88 : decode cX9_enters 88 = .ok (.aload_n 0, 1) := by decide +kernel
theorem dX9_enters_89 : decode cX9_enters 89 = .ok (.getfield 108, 3) := by decide +kernel
theorem dX9_enters_92 : decode cX9_enters 92 = .ok (.iload_n 1, 1) := by decide +kernel
theorem dX9_enters_93 : decode cX9_enters 93 = .ok (.iaload, 1) := by decide +kernel
theorem dX9_enters_94 : decode cX9_enters 94 = .ok (.if_icmp .ne 7, 3) := by decide +kernel
theorem dX9_enters_97 : decode cX9_enters 97 = .ok (.iconst (-1), 1) := by decide +kernel
theorem dX9_enters_98 : decode cX9_enters 98 = .ok (.goto 9, 3) := by decide +kernel
theorem dX9_enters_101 : decode cX9_enters 101 = .ok (.aload_n 0, 1) := by decide +kernel
theorem dX9_enters_102 : decode cX9_enters 102 = .ok (.getfield 138, 3) := by decide +kernel
theorem dX9_enters_105 : decode cX9_enters 105 = .ok (.iload_n 1, 1) := by decide +kernel
theorem dX9_enters_106 : decode cX9_enters 106 = .ok (.iaload, 1) := by decide +kernel
theorem dX9_enters_107 : decode cX9_enters 107 = .ok (.iastore, 1) := by decide +kernel
theorem dX9_enters_108 : decode cX9_enters 108 = .ok (.aload_n 0, 1) := by decide +kernel
theorem dX9_enters_109 : decode cX9_enters 109 = .ok (.getfield 108, 3) := by decide +kernel
theorem dX9_enters_112 : decode cX9_enters 112 = .ok (.iload_n 1, 1) := by decide +kernel
theorem dX9_enters_113 : decode cX9_enters 113 = .ok (.aload_n 0, 1) := by decide +kernel
theorem dX9_enters_114 : decode cX9_enters 114 = .ok (.iload_n 2, 1) := by decide +kernel
theorem dX9_enters_115 : decode cX9_enters 115 = .ok (.aload_n 0, 1) := by decide +kernel
theorem dX9_enters_116 : decode cX9_enters 116 = .ok (.getfield 108, 3) := by decide +kernel
theorem dX9_enters_119 : decode cX9_enters 119 = .ok (.iload_n 1, 1) := by decide +kernel
theorem dX9_enters_120 : decode cX9_enters 120 = .ok (.iaload, 1) := by decide +kernel
theorem dX9_enters_121 : decode cX9_enters 121 = .ok (.invokevirtual 252, 3) := by decide +kernel
theorem dX9_enters_124 : decode cX9_enters 124 = .ok (.iastore, 1) := by decide +kernel
theorem dX9_enters_125 : decode cX9_enters 125 = .ok (.aload_n 0, 1) := by decide +kernel
theorem dX9_enters_126 : decode cX9_enters 126 = .ok (.getfield 111, 3) := by decide +kernel
theorem dX9_enters_129 : decode cX9_enters 129 = .ok (.iload_n 1, 1) := by decide +kernel
theorem dX9_enters_130 : decode cX9_enters 130 = .ok (.iload_n 2, 1) := by decide +kernel
theorem dX9_enters_131 : decode cX9_enters 131 = .ok (.iastore, 1) := by decide +kernel
theorem dX9_enters_132 : decode cX9_enters 132 = .ok (.aload_n 0, 1) := by decide +kernel
theorem dX9_enters_133 : decode cX9_enters 133 = .ok (.getfield 105, 3) := by decide +kernel
theorem dX9_enters_136 : decode cX9_enters 136 = .ok (.iload_n 1, 1) := by decide +kernel
theorem dX9_enters_137 : decode cX9_enters 137 = .ok (.iconst 2, 1) := by decide +kernel
theorem dX9_enters_138 : decode cX9_enters 138 = .ok (.iastore, 1) := by decide +kernel
theorem dX9_enters_139 : decode cX9_enters 139 = .ok (.aload_n 0, 1) := by decide +kernel
theorem dX9_enters_140 : decode cX9_enters 140 = .ok (.getfield 126, 3) := by decide +kernel
theorem dX9_enters_143 : decode cX9_enters 143 = .ok (.iload_n 1, 1) := by decide +kernel
theorem dX9_enters_144 : decode cX9_enters 144 = .ok (.dup2, 1) := by decide +kernel
theorem dX9_enters_145 : decode cX9_enters 145 = .ok (.iaload, 1) := by decide +kernel
theorem dX9_enters_146 : decode cX9_enters 146 = .ok (.iconst 1, 1) := by decide +kernel
theorem dX9_enters_147 : decode cX9_enters 147 = .ok (.iadd, 1) := by decide +kernel
theorem dX9_enters_148 : decode cX9_enters 148 = .ok (.iastore, 1) := by decide +kernel
theorem dX9_enters_149 : decode cX9_enters 149 = .ok (.return_, 1) := by decide +kernel
theorem dX9_arrives_0 : decode cX9_arrives 0 = .ok (.aload_n 0, 1) := by decide +kernel
theorem dX9_arrives_1 : decode cX9_arrives 1 = .ok (.getfield 111, 3) := by decide +kernel
theorem dX9_arrives_4 : decode cX9_arrives 4 = .ok (.iload_n 1, 1) := by decide +kernel
theorem dX9_arrives_5 : decode cX9_arrives 5 = .ok (.iaload, 1) := by decide +kernel
theorem dX9_arrives_6 : decode cX9_arrives 6 = .ok (.istore_n 2, 1) := by decide +kernel
theorem dX9_arrives_7 : decode cX9_arrives 7 = .ok (.aload_n 0, 1) := by decide +kernel
theorem dX9_arrives_8 : decode cX9_arrives 8 = .ok (.getfield 26, 3) := by decide +kernel
theorem dX9_arrives_11 : decode cX9_arrives 11 = .ok (.iload_n 2, 1) := by decide +kernel
theorem dX9_arrives_12 : decode cX9_arrives 12 = .ok (.dup2, 1) := by decide +kernel
theorem dX9_arrives_13 : decode cX9_arrives 13 = .ok (.iaload, 1) := by decide +kernel
theorem dX9_arrives_14 : decode cX9_arrives 14 = .ok (.iconst 1, 1) := by decide +kernel
theorem dX9_arrives_15 : decode cX9_arrives 15 = .ok (.aload_n 0, 1) := by decide +kernel
theorem dX9_arrives_16 : decode cX9_arrives 16 = .ok (.getfield 120, 3) := by decide +kernel
theorem dX9_arrives_19 : decode cX9_arrives 19 = .ok (.iload_n 1, 1) := by decide +kernel
theorem dX9_arrives_20 : decode cX9_arrives 20 = .ok (.iaload, 1) := by decide +kernel
theorem dX9_arrives_21 : decode cX9_arrives 21 = .ok (.iadd, 1) := by decide +kernel
theorem dX9_arrives_22 : decode cX9_arrives 22 = .ok (.iadd, 1) := by decide +kernel
theorem dX9_arrives_23 : decode cX9_arrives 23 = .ok (.iastore, 1) := by decide +kernel
theorem dX9_arrives_24 : decode cX9_arrives 24 = .ok (.aload_n 0, 1) := by decide +kernel
theorem dX9_arrives_25 : decode cX9_arrives 25 = .ok (.getfield 111, 3) := by decide +kernel
theorem dX9_arrives_28 : decode cX9_arrives 28 = .ok (.iload_n 1, 1) := by decide +kernel
theorem dX9_arrives_29 : decode cX9_arrives 29 = .ok (.iconst (-1), 1) := by decide +kernel
theorem dX9_arrives_30 : decode cX9_arrives 30 = .ok (.iastore, 1) := by decide +kernel
theorem dX9_arrives_31 : decode cX9_arrives 31 = .ok (.aload_n 0, 1) := by decide +kernel
theorem dX9_arrives_32 : decode cX9_arrives 32 = .ok (.getfield 105, 3) := by decide +kernel
theorem dX9_arrives_35 : decode cX9_arrives 35 = .ok (.iload_n 1, 1) := by decide +kernel
theorem dX9_arrives_36 : decode cX9_arrives 36 = .ok (.aload_n 0, 1) := by decide +kernel
theorem dX9_arrives_37 : decode cX9_arrives 37 = .ok (.getfield 126, 3) := by decide +kernel
theorem dX9_arrives_40 : decode cX9_arrives 40 = .ok (.iload_n 1, 1) := by decide +kernel
theorem dX9_arrives_41 : decode cX9_arrives 41 = .ok (.iaload, 1) := by decide +kernel
theorem dX9_arrives_42 : decode cX9_arrives 42 = .ok (.aload_n 0, 1) := by decide +kernel
theorem dX9_arrives_43 : decode cX9_arrives 43 = .ok (.getfield 129, 3) := by decide +kernel
theorem dX9_arrives_46 : decode cX9_arrives 46 = .ok (.iload_n 1, 1) := by decide +kernel
theorem dX9_arrives_47 : decode cX9_arrives 47 = .ok (.iaload, 1) := by decide +kernel
theorem dX9_arrives_48 : decode cX9_arrives 48 = .ok (.if_icmp .ge 7, 3) := by decide +kernel
theorem dX9_arrives_51 : decode cX9_arrives 51 = .ok (.iconst 1, 1) := by decide +kernel
theorem dX9_arrives_52 : decode cX9_arrives 52 = .ok (.goto 4, 3) := by decide +kernel
theorem dX9_arrives_55 : decode cX9_arrives 55 = .ok (.iconst 0, 1) := by decide +kernel
theorem dX9_arrives_56 : decode cX9_arrives 56 = .ok (.iastore, 1) := by decide +kernel
theorem dX9_arrives_57 : decode cX9_arrives 57 = .ok (.return_, 1) := by decide +kernel
theorem dX9_pays_0 : decode cX9_pays 0 = .ok (.aload_n 0, 1) := by decide +kernel
theorem dX9_pays_1 : decode cX9_pays 1 = .ok (.dup, 1) := by decide +kernel
theorem dX9_pays_2 : decode cX9_pays 2 = .ok (.getfield 7, 3) := by decide +kernel
theorem dX9_pays_5 : decode cX9_pays 5 = .ok (.aload_n 0, 1) := by decide +kernel
theorem dX9_pays_6 : decode cX9_pays 6 = .ok (.getfield 230, 3) := by decide +kernel
theorem dX9_pays_9 : decode cX9_pays 9 = .ok (.sipush 200, 3) := by decide +kernel
theorem dX9_pays_12 : decode cX9_pays 12 = .ok (.idiv, 1) := by decide +kernel
theorem dX9_pays_13 : decode cX9_pays 13 = .ok (.isub, 1) := by decide +kernel
theorem dX9_pays_14 : decode cX9_pays 14 = .ok (.putfield 7, 3) := by decide +kernel
theorem dX9_pays_17 : decode cX9_pays 17 = .ok (.iconst 0, 1) := by decide +kernel
theorem dX9_pays_18 : decode cX9_pays 18 = .ok (.istore_n 1, 1) := by decide +kernel
theorem dX9_pays_19 : decode cX9_pays 19 = .ok (.iload_n 1, 1) := by decide +kernel
theorem dX9_pays_20 : decode cX9_pays 20 = .ok (.aload_n 0, 1) := by decide +kernel
theorem dX9_pays_21 : decode cX9_pays 21 = .ok (.getfield 184, 3) := by decide +kernel
theorem dX9_pays_24 : decode cX9_pays 24 = .ok (.if_icmp .ge 63, 3) := by decide +kernel
theorem dX9_pays_27 : decode cX9_pays 27 = .ok (.aload_n 0, 1) := by decide +kernel
theorem dX9_pays_28 : decode cX9_pays 28 = .ok (.dup, 1) := by decide +kernel
theorem dX9_pays_29 : decode cX9_pays 29 = .ok (.getfield 7, 3) := by decide +kernel
theorem dX9_pays_32 : decode cX9_pays 32 = .ok (.aload_n 0, 1) := by decide +kernel
theorem dX9_pays_33 : decode cX9_pays 33 = .ok (.getfield 87, 3) := by decide +kernel
theorem dX9_pays_36 : decode cX9_pays 36 = .ok (.iload_n 1, 1) := by decide +kernel
theorem dX9_pays_37 : decode cX9_pays 37 = .ok (.iaload, 1) := by decide +kernel
theorem dX9_pays_38 : decode cX9_pays 38 = .ok (.iconst (-1), 1) := by decide +kernel
theorem dX9_pays_39 : decode cX9_pays 39 = .ok (.if_icmp .eq 37, 3) := by decide +kernel
theorem dX9_pays_42 : decode cX9_pays 42 = .ok (.aload_n 0, 1) := by decide +kernel
theorem dX9_pays_43 : decode cX9_pays 43 = .ok (.getfield 84, 3) := by decide +kernel
theorem dX9_pays_46 : decode cX9_pays 46 = .ok (.iload_n 1, 1) := by decide +kernel
theorem dX9_pays_47 : decode cX9_pays 47 = .ok (.iaload, 1) := by decide +kernel
theorem dX9_pays_48 : decode cX9_pays 48 = .ok (.iconst (-1), 1) := by decide +kernel
theorem dX9_pays_49 : decode cX9_pays 49 = .ok (.if_icmp .ne 27, 3) := by decide +kernel
theorem dX9_pays_52 : decode cX9_pays 52 = .ok (.aload_n 0, 1) := by decide +kernel
theorem dX9_pays_53 : decode cX9_pays 53 = .ok (.getfield 150, 3) := by decide +kernel
theorem dX9_pays_56 : decode cX9_pays 56 = .ok (.aload_n 0, 1) := by decide +kernel
theorem dX9_pays_57 : decode cX9_pays 57 = .ok (.getfield 87, 3) := by decide +kernel
theorem dX9_pays_60 : decode cX9_pays 60 = .ok (.iload_n 1, 1) := by decide +kernel
theorem dX9_pays_61 : decode cX9_pays 61 = .ok (.iaload, 1) := by decide +kernel
theorem dX9_pays_62 : decode cX9_pays 62 = .ok (.iaload, 1) := by decide +kernel
theorem dX9_pays_63 : decode cX9_pays 63 = .ok (.aload_n 0, 1) := by decide +kernel
theorem dX9_pays_64 : decode cX9_pays 64 = .ok (.getfield 81, 3) := by decide +kernel
theorem dX9_pays_67 : decode cX9_pays 67 = .ok (.iload_n 1, 1) := by decide +kernel
theorem dX9_pays_68 : decode cX9_pays 68 = .ok (.iaload, 1) := by decide +kernel
theorem dX9_pays_69 : decode cX9_pays 69 = .ok (.if_icmp .ne 7, 3) := by decide +kernel
theorem dX9_pays_72 : decode cX9_pays 72 = .ok (.iconst 2, 1) := by decide +kernel
theorem dX9_pays_73 : decode cX9_pays 73 = .ok (.goto 4, 3) := by decide +kernel
theorem dX9_pays_76 : decode cX9_pays 76 = .ok (.iconst 0, 1) := by decide +kernel
theorem dX9_pays_77 : decode cX9_pays 77 = .ok (.iadd, 1) := by decide +kernel
theorem dX9_pays_78 : decode cX9_pays 78 = .ok (.putfield 7, 3) := by decide +kernel
theorem dX9_pays_81 : decode cX9_pays 81 = .ok (.iinc 1 1, 3) := by decide +kernel
theorem dX9_pays_84 : decode cX9_pays 84 = .ok (.goto (-65), 3) := by decide +kernel
theorem dX9_pays_87 : decode cX9_pays 87 = .ok (.return_, 1) := by decide +kernel
theorem dX9_ticks_0 : decode cX9_ticks 0 = .ok (.aload_n 0, 1) := by decide +kernel
theorem dX9_ticks_1 : decode cX9_ticks 1 = .ok (.dup, 1) := by decide +kernel
theorem dX9_ticks_2 : decode cX9_ticks 2 = .ok (.getfield 187, 3) := by decide +kernel
theorem dX9_ticks_5 : decode cX9_ticks 5 = .ok (.iconst 1, 1) := by decide +kernel
theorem dX9_ticks_6 : decode cX9_ticks 6 = .ok (.iadd, 1) := by decide +kernel
theorem dX9_ticks_7 : decode cX9_ticks 7 = .ok (.putfield 187, 3) := by decide +kernel
theorem dX9_ticks_10 : decode cX9_ticks 10 = .ok (.iconst 0, 1) := by decide +kernel
theorem dX9_ticks_11 : decode cX9_ticks 11 = .ok (.istore_n 1, 1) := by decide +kernel
theorem dX9_ticks_12 : decode cX9_ticks 12 = .ok (.iload_n 1, 1) := by decide +kernel
theorem dX9_ticks_13 : decode cX9_ticks 13 = .ok (.aload_n 0, 1) := by decide +kernel
theorem dX9_ticks_14 : decode cX9_ticks 14 = .ok (.getfield 181, 3) := by decide +kernel
theorem dX9_ticks_17 : decode cX9_ticks 17 = .ok (.if_icmp .ge 48, 3) := by decide +kernel
theorem dX9_ticks_20 : decode cX9_ticks 20 = .ok (.aload_n 0, 1) := by decide +kernel
theorem dX9_ticks_21 : decode cX9_ticks 21 = .ok (.getfield 48, 3) := by decide +kernel
theorem dX9_ticks_24 : decode cX9_ticks 24 = .ok (.iload_n 1, 1) := by decide +kernel
theorem dX9_ticks_25 : decode cX9_ticks 25 = .ok (.aload_n 0, 1) := by decide +kernel
theorem dX9_ticks_26 : decode cX9_ticks 26 = .ok (.getfield 48, 3) := by decide +kernel
theorem dX9_ticks_29 : decode cX9_ticks 29 = .ok (.iload_n 1, 1) := by decide +kernel
theorem dX9_ticks_30 : decode cX9_ticks 30 = .ok (.iaload, 1) := by decide +kernel
theorem dX9_ticks_31 : decode cX9_ticks 31 = .ok (.iconst (-1), 1) := by decide +kernel
theorem dX9_ticks_32 : decode cX9_ticks 32 = .ok (.if_icmp .eq 20, 3) := by decide +kernel
theorem dX9_ticks_35 : decode cX9_ticks 35 = .ok (.aload_n 0, 1) := by decide +kernel
theorem dX9_ticks_36 : decode cX9_ticks 36 = .ok (.getfield 51, 3) := by decide +kernel
theorem dX9_ticks_39 : decode cX9_ticks 39 = .ok (.iload_n 1, 1) := by decide +kernel
theorem dX9_ticks_40 : decode cX9_ticks 40 = .ok (.iaload, 1) := by decide +kernel
theorem dX9_ticks_41 : decode cX9_ticks 41 = .ok (.aload_n 0, 1) := by decide +kernel
theorem dX9_ticks_42 : decode cX9_ticks 42 = .ok (.getfield 187, 3) := by decide +kernel
theorem dX9_ticks_45 : decode cX9_ticks 45 = .ok (.if_icmp .gt 7, 3) := by decide +kernel
theorem dX9_ticks_48 : decode cX9_ticks 48 = .ok (.iconst (-1), 1) := by decide +kernel
theorem dX9_ticks_49 : decode cX9_ticks 49 = .ok (.goto 9, 3) := by decide +kernel
theorem dX9_ticks_52 : decode cX9_ticks 52 = .ok (.aload_n 0, 1) := by decide +kernel
theorem dX9_ticks_53 : decode cX9_ticks 53 = .ok (.getfield 48, 3) := by decide +kernel
theorem dX9_ticks_56 : decode cX9_ticks 56 = .ok (.iload_n 1, 1) := by decide +kernel
theorem dX9_ticks_57 : decode cX9_ticks 57 = .ok (.iaload, 1) := by decide +kernel
theorem dX9_ticks_58 : decode cX9_ticks 58 = .ok (.iastore, 1) := by decide +kernel
theorem dX9_ticks_59 : decode cX9_ticks 59 = .ok (.iinc 1 1, 3) := by decide +kernel
theorem dX9_ticks_62 : decode cX9_ticks 62 = .ok (.goto (-50), 3) := by decide +kernel
theorem dX9_ticks_65 : decode cX9_ticks 65 = .ok (.iconst 0, 1) := by decide +kernel
theorem dX9_ticks_66 : decode cX9_ticks 66 = .ok (.istore_n 1, 1) := by decide +kernel
theorem dX9_ticks_67 : decode cX9_ticks 67 = .ok (.iload_n 1, 1) := by decide +kernel
theorem dX9_ticks_68 : decode cX9_ticks 68 = .ok (.bipush 6, 2) := by decide +kernel
theorem dX9_ticks_70 : decode cX9_ticks 70 = .ok (.if_icmp .ge 46, 3) := by decide +kernel
theorem dX9_ticks_73 : decode cX9_ticks 73 = .ok (.aload_n 0, 1) := by decide +kernel
theorem dX9_ticks_74 : decode cX9_ticks 74 = .ok (.getfield 96, 3) := by decide +kernel
theorem dX9_ticks_77 : decode cX9_ticks 77 = .ok (.iload_n 1, 1) := by decide +kernel
theorem dX9_ticks_78 : decode cX9_ticks 78 = .ok (.baload, 1) := by decide +kernel
theorem dX9_ticks_79 : decode cX9_ticks 79 = .ok (.ifCond .eq 31, 3) := by decide +kernel
theorem dX9_ticks_82 : decode cX9_ticks 82 = .ok (.aload_n 0, 1) := by decide +kernel
theorem dX9_ticks_83 : decode cX9_ticks 83 = .ok (.getfield 105, 3) := by decide +kernel
theorem dX9_ticks_86 : decode cX9_ticks 86 = .ok (.iload_n 1, 1) := by decide +kernel
theorem dX9_ticks_87 : decode cX9_ticks 87 = .ok (.iaload, 1) := by decide +kernel
theorem dX9_ticks_88 : decode cX9_ticks 88 = .ok (.iconst 2, 1) := by decide +kernel
theorem dX9_ticks_89 : decode cX9_ticks 89 = .ok (.if_icmp .ne 21, 3) := by decide +kernel
theorem dX9_ticks_92 : decode cX9_ticks 92 = .ok (.aload_n 0, 1) := by decide +kernel
theorem dX9_ticks_93 : decode cX9_ticks 93 = .ok (.getfield 114, 3) := by decide +kernel
theorem dX9_ticks_96 : decode cX9_ticks 96 = .ok (.iload_n 1, 1) := by decide +kernel
theorem dX9_ticks_97 : decode cX9_ticks 97 = .ok (.iaload, 1) := by decide +kernel
theorem dX9_ticks_98 : decode cX9_ticks 98 = .ok (.aload_n 0, 1) := by decide +kernel
theorem dX9_ticks_99 : decode cX9_ticks 99 = .ok (.getfield 187, 3) := by decide +kernel
theorem dX9_ticks_102 : decode cX9_ticks 102 = .ok (.if_icmp .ne 8, 3) := by decide +kernel
theorem dX9_ticks_105 : decode cX9_ticks 105 = .ok (.aload_n 0, 1) := by decide +kernel
theorem dX9_ticks_106 : decode cX9_ticks 106 = .ok (.iload_n 1, 1) := by decide +kernel
theorem dX9_ticks_107 : decode cX9_ticks 107 = .ok (.invokevirtual 272, 3) := by decide +kernel
theorem dX9_ticks_110 : decode cX9_ticks 110 = .ok (.iinc 1 1, 3) := by decide +kernel
theorem dX9_ticks_113 : decode cX9_ticks 113 = .ok (.goto (-46), 3) := by decide +kernel
theorem dX9_ticks_116 : decode cX9_ticks 116 = .ok (.aload_n 0, 1) := by decide +kernel
theorem dX9_ticks_117 : decode cX9_ticks 117 = .ok (.getfield 187, 3) := by decide +kernel
theorem dX9_ticks_120 : decode cX9_ticks 120 = .ok (.sipush 1440, 3) := by decide +kernel
theorem dX9_ticks_123 : decode cX9_ticks 123 = .ok (.irem, 1) := by decide +kernel
theorem dX9_ticks_124 : decode cX9_ticks 124 = .ok (.ifCond .ne 7, 3) := by decide +kernel
theorem dX9_ticks_127 : decode cX9_ticks 127 = .ok (.aload_n 0, 1) := by decide +kernel
theorem dX9_ticks_128 : decode cX9_ticks 128 = .ok (.invokevirtual 275, 3) := by decide +kernel
theorem dX9_ticks_131 : decode cX9_ticks 131 = .ok (.iconst 0, 1) := by decide +kernel
theorem dX9_ticks_132 : decode cX9_ticks 132 = .ok (.istore_n 1, 1) := by decide +kernel
theorem dX9_ticks_133 : decode cX9_ticks 133 = .ok (.bipush 9, 2) := by decide +kernel
theorem dX9_ticks_135 : decode cX9_ticks 135 = .ok (.istore_n 2, 1) := by decide +kernel
theorem dX9_ticks_136 : decode cX9_ticks 136 = .ok (.iload_n 2, 1) := by decide +kernel
theorem dX9_ticks_137 : decode cX9_ticks 137 = .ok (.ifCond .lt 69, 3) := by decide +kernel
theorem dX9_ticks_140 : decode cX9_ticks 140 = .ok (.iconst 0, 1) := by decide +kernel
theorem dX9_ticks_141 : decode cX9_ticks 141 = .ok (.istore_n 3, 1) := by decide +kernel
theorem dX9_ticks_142 : decode cX9_ticks 142 = .ok (.iload_n 3, 1) := by decide +kernel
theorem dX9_ticks_143 : decode cX9_ticks 143 = .ok (.bipush 6, 2) := by decide +kernel
theorem dX9_ticks_145 : decode cX9_ticks 145 = .ok (.if_icmp .ge 55, 3) := by decide +kernel
theorem dX9_ticks_148 : decode cX9_ticks 148 = .ok (.aload_n 0, 1) := by decide +kernel
theorem dX9_ticks_149 : decode cX9_ticks 149 = .ok (.getfield 96, 3) := by decide +kernel
theorem dX9_ticks_152 : decode cX9_ticks 152 = .ok (.iload_n 3, 1) := by decide +kernel
theorem dX9_ticks_153 : decode cX9_ticks 153 = .ok (.baload, 1) := by decide +kernel
theorem dX9_ticks_154 : decode cX9_ticks 154 = .ok (.ifCond .eq 40, 3) := by decide +kernel
theorem dX9_ticks_157 : decode cX9_ticks 157 = .ok (.aload_n 0, 1) := by decide +kernel
theorem dX9_ticks_158 : decode cX9_ticks 158 = .ok (.getfield 105, 3) := by decide +kernel
theorem dX9_ticks_161 : decode cX9_ticks 161 = .ok (.iload_n 3, 1) := by decide +kernel
theorem dX9_ticks_162 : decode cX9_ticks 162 = .ok (.iaload, 1) := by decide +kernel
theorem dX9_ticks_163 : decode cX9_ticks 163 = .ok (.iconst 1, 1) := by decide +kernel
theorem dX9_ticks_164 : decode cX9_ticks 164 = .ok (.if_icmp .ne 30, 3) := by decide +kernel
theorem dX9_ticks_167 : decode cX9_ticks 167 = .ok (.aload_n 0, 1) := by decide +kernel
theorem dX9_ticks_168 : decode cX9_ticks 168 = .ok (.getfield 135, 3) := by decide +kernel
theorem dX9_ticks_171 : decode cX9_ticks 171 = .ok (.iload_n 3, 1) := by decide +kernel
theorem dX9_ticks_172 : decode cX9_ticks 172 = .ok (.iaload, 1) := by decide +kernel
theorem dX9_ticks_173 : decode cX9_ticks 173 = .ok (.iload_n 2, 1) := by decide +kernel
theorem dX9_ticks_174 : decode cX9_ticks 174 = .ok (.if_icmp .ne 20, 3) := by decide +kernel
theorem dX9_ticks_177 : decode cX9_ticks 177 = .ok (.aload_n 0, 1) := by decide +kernel
theorem dX9_ticks_178 : decode cX9_ticks 178 = .ok (.iload_n 3, 1) := by decide +kernel
theorem dX9_ticks_179 : decode cX9_ticks 179 = .ok (.iconst 1, 1) := by decide +kernel
theorem dX9_ticks_180 : decode cX9_ticks 180 = .ok (.invokevirtual 278, 3) := by decide +kernel
theorem dX9_ticks_183 : decode cX9_ticks 183 = .ok (.ifCond .ne 11, 3) := by decide +kernel
theorem dX9_ticks_186 : decode cX9_ticks 186 = .ok (.aload_n 0, 1) := by decide +kernel
theorem dX9_ticks_187 : decode cX9_ticks 187 = .ok (.iload_n 3, 1) := by decide +kernel
theorem dX9_ticks_188 : decode cX9_ticks 188 = .ok (.invokevirtual 281, 3) := by decide +kernel
theorem dX9_ticks_191 : decode cX9_ticks 191 = .ok (.iinc 1 1, 3) := by decide +kernel
theorem dX9_ticks_194 : decode cX9_ticks 194 = .ok (.iinc 3 1, 3) := by decide +kernel
theorem dX9_ticks_197 : decode cX9_ticks 197 = .ok (.goto (-55), 3) := by decide +kernel
theorem dX9_ticks_200 : decode cX9_ticks 200 = .ok (.iinc 2 (-1), 3) := by decide +kernel
theorem dX9_ticks_203 : decode cX9_ticks 203 = .ok (.goto (-67), 3) := by decide +kernel
theorem dX9_ticks_206 : decode cX9_ticks 206 = .ok (.iload_n 1, 1) := by decide +kernel
theorem dX9_ticks_207 : decode cX9_ticks 207 = .ok (.ireturn, 1) := by decide +kernel
theorem dX9_run_0 : decode cX9_run 0 = .ok (.aload_n 0, 1) := by decide +kernel
theorem dX9_run_1 : decode cX9_run 1 = .ok (.iload_n 1, 1) := by decide +kernel
theorem dX9_run_2 : decode cX9_run 2 = .ok (.iconst 1, 1) := by decide +kernel
theorem dX9_run_3 : decode cX9_run 3 = .ok (.sipush 300, 3) := by decide +kernel
theorem dX9_run_6 : decode cX9_run 6 = .ok (.invokestatic 177, 3) := by decide +kernel
theorem dX9_run_9 : decode cX9_run 9 = .ok (.ifCond .ne 7, 3) := by decide +kernel
theorem dX9_run_12 : decode cX9_run 12 = .ok (.iconst 1, 1) := by decide +kernel
theorem dX9_run_13 : decode cX9_run 13 = .ok (.goto 20, 3) := by decide +kernel
theorem dX9_run_16 : decode cX9_run 16 = .ok (.aload_n 0, 1) := by decide +kernel
theorem dX9_run_17 : decode cX9_run 17 = .ok (.getfield 187, 3) := by decide +kernel
theorem dX9_run_20 : decode cX9_run 20 = .ok (.iload_n 1, 1) := by decide +kernel
theorem dX9_run_21 : decode cX9_run 21 = .ok (.iadd, 1) := by decide +kernel
theorem dX9_run_22 : decode cX9_run 22 = .ok (.sipush 20000, 3) := by decide +kernel
theorem dX9_run_25 : decode cX9_run 25 = .ok (.if_icmp .le 7, 3) := by decide +kernel
theorem dX9_run_28 : decode cX9_run 28 = .ok (.iconst 2, 1) := by decide +kernel
theorem dX9_run_29 : decode cX9_run 29 = .ok (.goto 4, 3) := by decide +kernel
theorem dX9_run_32 : decode cX9_run 32 = .ok (.iconst 0, 1) := by decide +kernel
theorem dX9_run_33 : decode cX9_run 33 = .ok (.putfield 174, 3) := by decide +kernel
theorem dX9_run_36 : decode cX9_run 36 = .ok (.iconst 0, 1) := by decide +kernel
theorem dX9_run_37 : decode cX9_run 37 = .ok (.istore_n 2, 1) := by decide +kernel
theorem dX9_run_38 : decode cX9_run 38 = .ok (.iconst 0, 1) := by decide +kernel
theorem dX9_run_39 : decode cX9_run 39 = .ok (.istore_n 3, 1) := by decide +kernel
theorem dX9_run_40 : decode cX9_run 40 = .ok (.iload_n 3, 1) := by decide +kernel
theorem dX9_run_41 : decode cX9_run 41 = .ok (.iload_n 1, 1) := by decide +kernel
theorem dX9_run_42 : decode cX9_run 42 = .ok (.if_icmp .ge 23, 3) := by decide +kernel
theorem dX9_run_45 : decode cX9_run 45 = .ok (.aload_n 0, 1) := by decide +kernel
theorem dX9_run_46 : decode cX9_run 46 = .ok (.getfield 174, 3) := by decide +kernel
theorem dX9_run_49 : decode cX9_run 49 = .ok (.ifCond .ne 16, 3) := by decide +kernel
theorem dX9_run_52 : decode cX9_run 52 = .ok (.iload_n 2, 1) := by decide +kernel
theorem dX9_run_53 : decode cX9_run 53 = .ok (.aload_n 0, 1) := by decide +kernel
theorem dX9_run_54 : decode cX9_run 54 = .ok (.invokevirtual 284, 3) := by decide +kernel
theorem dX9_run_57 : decode cX9_run 57 = .ok (.iadd, 1) := by decide +kernel
theorem dX9_run_58 : decode cX9_run 58 = .ok (.istore_n 2, 1) := by decide +kernel
theorem dX9_run_59 : decode cX9_run 59 = .ok (.iinc 3 1, 3) := by decide +kernel
theorem dX9_run_62 : decode cX9_run 62 = .ok (.goto (-22), 3) := by decide +kernel
theorem dX9_run_65 : decode cX9_run 65 = .ok (.iload_n 2, 1) := by decide +kernel
theorem dX9_run_66 : decode cX9_run 66 = .ok (.ireturn, 1) := by decide +kernel
theorem dX9_wrecks_0 : decode cX9_wrecks 0 = .ok (.aload_n 0, 1) := by decide +kernel
theorem dX9_wrecks_1 : decode cX9_wrecks 1 = .ok (.getfield 105, 3) := by decide +kernel
theorem dX9_wrecks_4 : decode cX9_wrecks 4 = .ok (.iload_n 1, 1) := by decide +kernel
theorem dX9_wrecks_5 : decode cX9_wrecks 5 = .ok (.iconst 3, 1) := by decide +kernel
theorem dX9_wrecks_6 : decode cX9_wrecks 6 = .ok (.iastore, 1) := by decide +kernel
theorem dX9_wrecks_7 : decode cX9_wrecks 7 = .ok (.aload_n 0, 1) := by decide +kernel
theorem dX9_wrecks_8 : decode cX9_wrecks 8 = .ok (.getfield 111, 3) := by decide +kernel
theorem dX9_wrecks_11 : decode cX9_wrecks 11 = .ok (.iload_n 1, 1) := by decide +kernel
theorem dX9_wrecks_12 : decode cX9_wrecks 12 = .ok (.iload_n 2, 1) := by decide +kernel
theorem dX9_wrecks_13 : decode cX9_wrecks 13 = .ok (.iastore, 1) := by decide +kernel
theorem dX9_wrecks_14 : decode cX9_wrecks 14 = .ok (.aload_n 0, 1) := by decide +kernel
theorem dX9_wrecks_15 : decode cX9_wrecks 15 = .ok (.getfield 126, 3) := by decide +kernel
theorem dX9_wrecks_18 : decode cX9_wrecks 18 = .ok (.iload_n 1, 1) := by decide +kernel
theorem dX9_wrecks_19 : decode cX9_wrecks 19 = .ok (.aload_n 0, 1) := by decide +kernel
theorem dX9_wrecks_20 : decode cX9_wrecks 20 = .ok (.getfield 129, 3) := by decide +kernel
theorem dX9_wrecks_23 : decode cX9_wrecks 23 = .ok (.iload_n 1, 1) := by decide +kernel
theorem dX9_wrecks_24 : decode cX9_wrecks 24 = .ok (.iaload, 1) := by decide +kernel
theorem dX9_wrecks_25 : decode cX9_wrecks 25 = .ok (.iastore, 1) := by decide +kernel
theorem dX9_wrecks_26 : decode cX9_wrecks 26 = .ok (.iconst 0, 1) := by decide +kernel
theorem dX9_wrecks_27 : decode cX9_wrecks 27 = .ok (.istore_n 3, 1) := by decide +kernel
theorem dX9_wrecks_28 : decode cX9_wrecks 28 = .ok (.iload_n 3, 1) := by decide +kernel
theorem dX9_wrecks_29 : decode cX9_wrecks 29 = .ok (.aload_n 0, 1) := by decide +kernel
theorem dX9_wrecks_30 : decode cX9_wrecks 30 = .ok (.getfield 181, 3) := by decide +kernel
theorem dX9_wrecks_33 : decode cX9_wrecks 33 = .ok (.if_icmp .ge 35, 3) := by decide +kernel
theorem dX9_wrecks_36 : decode cX9_wrecks 36 = .ok (.aload_n 0, 1) := by decide +kernel
theorem dX9_wrecks_37 : decode cX9_wrecks 37 = .ok (.getfield 48, 3) := by decide +kernel
theorem dX9_wrecks_40 : decode cX9_wrecks 40 = .ok (.iload_n 3, 1) := by decide +kernel
theorem dX9_wrecks_41 : decode cX9_wrecks 41 = .ok (.aload_n 0, 1) := by decide +kernel
theorem dX9_wrecks_42 : decode cX9_wrecks 42 = .ok (.getfield 48, 3) := by decide +kernel
theorem dX9_wrecks_45 : decode cX9_wrecks 45 = .ok (.iload_n 3, 1) := by decide +kernel
theorem dX9_wrecks_46 : decode cX9_wrecks 46 = .ok (.iaload, 1) := by decide +kernel
theorem dX9_wrecks_47 : decode cX9_wrecks 47 = .ok (.iload_n 1, 1) := by decide +kernel
theorem dX9_wrecks_48 : decode cX9_wrecks 48 = .ok (.if_icmp .ne 7, 3) := by decide +kernel
theorem dX9_wrecks_51 : decode cX9_wrecks 51 = .ok (.iconst (-1), 1) := by decide +kernel
theorem dX9_wrecks_52 : decode cX9_wrecks 52 = .ok (.goto 9, 3) := by decide +kernel
theorem dX9_wrecks_55 : decode cX9_wrecks 55 = .ok (.aload_n 0, 1) := by decide +kernel
theorem dX9_wrecks_56 : decode cX9_wrecks 56 = .ok (.getfield 48, 3) := by decide +kernel
theorem dX9_wrecks_59 : decode cX9_wrecks 59 = .ok (.iload_n 3, 1) := by decide +kernel
theorem dX9_wrecks_60 : decode cX9_wrecks 60 = .ok (.iaload, 1) := by decide +kernel
theorem dX9_wrecks_61 : decode cX9_wrecks 61 = .ok (.iastore, 1) := by decide +kernel
theorem dX9_wrecks_62 : decode cX9_wrecks 62 = .ok (.iinc 3 1, 3) := by decide +kernel
theorem dX9_wrecks_65 : decode cX9_wrecks 65 = .ok (.goto (-37), 3) := by decide +kernel
theorem dX9_wrecks_68 : decode cX9_wrecks 68 = .ok (.return_, 1) := by decide +kernel
theorem dX9_passSignal_0 : decode cX9_passSignal 0 = .ok (.aload_n 0, 1) := by decide +kernel
theorem dX9_passSignal_1 : decode cX9_passSignal 1 = .ok (.aload_n 0, 1) := by decide +kernel
theorem dX9_passSignal_2 : decode cX9_passSignal 2 = .ok (.iload_n 1, 1) := by decide +kernel
theorem dX9_passSignal_3 : decode cX9_passSignal 3 = .ok (.invokevirtual 237, 3) := by decide +kernel
theorem dX9_passSignal_6 : decode cX9_passSignal 6 = .ok (.ifCond .eq 7, 3) := by decide +kernel
theorem dX9_passSignal_9 : decode cX9_passSignal 9 = .ok (.iconst 0, 1) := by decide +kernel
theorem dX9_passSignal_10 : decode cX9_passSignal 10 = .ok (.goto 4, 3) := by decide +kernel
theorem dX9_passSignal_13 : decode cX9_passSignal 13 = .ok (.iconst 1, 1) := by decide +kernel
theorem dX9_passSignal_14 : decode cX9_passSignal 14 = .ok (.putfield 174, 3) := by decide +kernel
theorem dX9_passSignal_17 : decode cX9_passSignal 17 = .ok (.aload_n 0, 1) := by decide +kernel
theorem dX9_passSignal_18 : decode cX9_passSignal 18 = .ok (.getfield 174, 3) := by decide +kernel
theorem dX9_passSignal_21 : decode cX9_passSignal 21 = .ok (.ifCond .le 5, 3) := by decide +kernel
theorem dX9_passSignal_24 : decode cX9_passSignal 24 = .ok (.iconst 0, 1) := by decide +kernel
theorem dX9_passSignal_25 : decode cX9_passSignal 25 = .ok (.ireturn, 1) := by decide +kernel
theorem dX9_passSignal_26 : decode cX9_passSignal 26 = .ok (.aload_n 0, 1) := by decide +kernel
theorem dX9_passSignal_27 : decode cX9_passSignal 27 = .ok (.getfield 105, 3) := by decide +kernel
theorem dX9_passSignal_30 : decode cX9_passSignal 30 = .ok (.iload_n 1, 1) := by decide +kernel
theorem dX9_passSignal_31 : decode cX9_passSignal 31 = .ok (.iaload, 1) := by decide +kernel
theorem dX9_passSignal_32 : decode cX9_passSignal 32 = .ok (.iconst 1, 1) := by decide +kernel
theorem dX9_passSignal_33 : decode cX9_passSignal 33 = .ok (.if_icmp .ne 12, 3) := by decide +kernel
theorem dX9_passSignal_36 : decode cX9_passSignal 36 = .ok (.aload_n 0, 1) := by decide +kernel
theorem dX9_passSignal_37 : decode cX9_passSignal 37 = .ok (.iload_n 1, 1) := by decide +kernel
theorem dX9_passSignal_38 : decode cX9_passSignal 38 = .ok (.iconst 1, 1) := by decide +kernel
theorem dX9_passSignal_39 : decode cX9_passSignal 39 = .ok (.invokevirtual 278, 3) := by decide +kernel
theorem dX9_passSignal_42 : decode cX9_passSignal 42 = .ok (.goto 4, 3) := by decide +kernel
theorem dX9_passSignal_45 : decode cX9_passSignal 45 = .ok (.iconst 0, 1) := by decide +kernel
theorem dX9_passSignal_46 : decode cX9_passSignal 46 = .ok (.istore_n 2, 1) := by decide +kernel
theorem dX9_passSignal_47 : decode cX9_passSignal 47 = .ok (.aload_n 0, 1) := by decide +kernel
theorem dX9_passSignal_48 : decode cX9_passSignal 48 = .ok (.getfield 105, 3) := by decide +kernel
theorem dX9_passSignal_51 : decode cX9_passSignal 51 = .ok (.iload_n 1, 1) := by decide +kernel
theorem dX9_passSignal_52 : decode cX9_passSignal 52 = .ok (.iaload, 1) := by decide +kernel
theorem dX9_passSignal_53 : decode cX9_passSignal 53 = .ok (.iconst 1, 1) := by decide +kernel
theorem dX9_passSignal_54 : decode cX9_passSignal 54 = .ok (.if_icmp .ne 22, 3) := by decide +kernel
theorem dX9_passSignal_57 : decode cX9_passSignal 57 = .ok (.aload_n 0, 1) := by decide +kernel
theorem dX9_passSignal_58 : decode cX9_passSignal 58 = .ok (.getfield 123, 3) := by decide +kernel
theorem dX9_passSignal_61 : decode cX9_passSignal 61 = .ok (.bipush 8, 2) := by decide +kernel
theorem dX9_passSignal_63 : decode cX9_passSignal 63 = .ok (.iload_n 1, 1) := by decide +kernel
theorem dX9_passSignal_64 : decode cX9_passSignal 64 = .ok (.imul, 1) := by decide +kernel
theorem dX9_passSignal_65 : decode cX9_passSignal 65 = .ok (.aload_n 0, 1) := by decide +kernel
theorem dX9_passSignal_66 : decode cX9_passSignal 66 = .ok (.getfield 126, 3) := by decide +kernel
theorem dX9_passSignal_69 : decode cX9_passSignal 69 = .ok (.iload_n 1, 1) := by decide +kernel
theorem dX9_passSignal_70 : decode cX9_passSignal 70 = .ok (.iaload, 1) := by decide +kernel
theorem dX9_passSignal_71 : decode cX9_passSignal 71 = .ok (.iadd, 1) := by decide +kernel
theorem dX9_passSignal_72 : decode cX9_passSignal 72 = .ok (.iaload, 1) := by decide +kernel
theorem dX9_passSignal_73 : decode cX9_passSignal 73 = .ok (.goto 4, 3) := by decide +kernel
theorem dX9_passSignal_76 : decode cX9_passSignal 76 = .ok (.iconst 0, 1) := by decide +kernel
theorem dX9_passSignal_77 : decode cX9_passSignal 77 = .ok (.istore_n 3, 1) := by decide +kernel
theorem dX9_passSignal_78 : decode cX9_passSignal 78 = .ok (.iload_n 2, 1) := by decide +kernel
theorem dX9_passSignal_79 : decode cX9_passSignal 79 = .ok (.iconst 3, 1) := by decide +kernel
theorem dX9_passSignal_80 : decode cX9_passSignal 80 = .ok (.iconst 5, 1) := by decide +kernel
theorem dX9_passSignal_81 : decode cX9_passSignal 81 = .ok (.invokestatic 177, 3) := by decide +kernel
theorem dX9_passSignal_84 : decode cX9_passSignal 84 = .ok (.ifCond .eq 32, 3) := by decide +kernel
theorem dX9_passSignal_87 : decode cX9_passSignal 87 = .ok (.aload_n 0, 1) := by decide +kernel
theorem dX9_passSignal_88 : decode cX9_passSignal 88 = .ok (.iload_n 1, 1) := by decide +kernel
theorem dX9_passSignal_89 : decode cX9_passSignal 89 = .ok (.bipush 6, 2) := by decide +kernel
theorem dX9_passSignal_91 : decode cX9_passSignal 91 = .ok (.invokevirtual 278, 3) := by decide +kernel
theorem dX9_passSignal_94 : decode cX9_passSignal 94 = .ok (.ifCond .gt 22, 3) := by decide +kernel
theorem dX9_passSignal_97 : decode cX9_passSignal 97 = .ok (.aload_n 0, 1) := by decide +kernel
theorem dX9_passSignal_98 : decode cX9_passSignal 98 = .ok (.getfield 48, 3) := by decide +kernel
theorem dX9_passSignal_101 : decode cX9_passSignal 101 = .ok (.iload_n 3, 1) := by decide +kernel
theorem dX9_passSignal_102 : decode cX9_passSignal 102 = .ok (.iaload, 1) := by decide +kernel
theorem dX9_passSignal_103 : decode cX9_passSignal 103 = .ok (.iload_n 1, 1) := by decide +kernel
theorem dX9_passSignal_104 : decode cX9_passSignal 104 = .ok (.if_icmp .eq 12, 3) := by decide +kernel
theorem dX9_passSignal_107 : decode cX9_passSignal 107 = .ok (.aload_n 0, 1) := by decide +kernel
theorem dX9_passSignal_108 : decode cX9_passSignal 108 = .ok (.getfield 32, 3) := by decide +kernel
theorem dX9_passSignal_111 : decode cX9_passSignal 111 = .ok (.iload_n 3, 1) := by decide +kernel
theorem dX9_passSignal_112 : decode cX9_passSignal 112 = .ok (.baload, 1) := by decide +kernel
theorem dX9_passSignal_113 : decode cX9_passSignal 113 = .ok (.ifCond .eq 10, 3) := by decide +kernel
theorem dX9_passSignal_116 : decode cX9_passSignal 116 = .ok (.aload_n 0, 1) := by decide +kernel
theorem dX9_passSignal_117 : decode cX9_passSignal 117 = .ok (.iconst 2, 1) := by decide +kernel
theorem dX9_passSignal_118 : decode cX9_passSignal 118 = .ok (.putfield 174, 3) := by decide +kernel
theorem dX9_passSignal_121 : decode cX9_passSignal 121 = .ok (.iconst 0, 1) := by decide +kernel
theorem dX9_passSignal_122 : decode cX9_passSignal 122 = .ok (.ireturn, 1) := by decide +kernel
theorem dX9_passSignal_123 : decode cX9_passSignal 123 = .ok (.aload_n 0, 1) := by decide +kernel
theorem dX9_passSignal_124 : decode cX9_passSignal 124 = .ok (.dup, 1) := by decide +kernel
theorem dX9_passSignal_125 : decode cX9_passSignal 125 = .ok (.getfield 7, 3) := by decide +kernel
theorem dX9_passSignal_128 : decode cX9_passSignal 128 = .ok (.bipush 50, 2) := by decide +kernel
theorem dX9_passSignal_130 : decode cX9_passSignal 130 = .ok (.isub, 1) := by decide +kernel
theorem dX9_passSignal_131 : decode cX9_passSignal 131 = .ok (.putfield 7, 3) := by decide +kernel
theorem dX9_passSignal_134 : decode cX9_passSignal 134 = .ok (.aload_n 0, 1) := by decide +kernel
theorem dX9_passSignal_135 : decode cX9_passSignal 135 = .ok (.iload_n 2, 1) := by decide +kernel
theorem dX9_passSignal_136 : decode cX9_passSignal 136 = .ok (.putfield 288, 3) := by decide +kernel
theorem dX9_passSignal_139 : decode cX9_passSignal 139 = .ok (.aload_n 0, 1) := by decide +kernel
theorem dX9_passSignal_140 : decode cX9_passSignal 140 = .ok (.getfield 48, 3) := by decide +kernel
theorem dX9_passSignal_143 : decode cX9_passSignal 143 = .ok (.iload_n 3, 1) := by decide +kernel
theorem dX9_passSignal_144 : decode cX9_passSignal 144 = .ok (.iaload, 1) := by decide +kernel
theorem dX9_passSignal_145 : decode cX9_passSignal 145 = .ok (.iconst (-1), 1) := by decide +kernel
theorem dX9_passSignal_146 : decode cX9_passSignal 146 = .ok (.if_icmp .ne 10, 3) := by decide +kernel
theorem dX9_passSignal_149 : decode cX9_passSignal 149 = .ok (.aload_n 0, 1) := by decide +kernel
theorem dX9_passSignal_150 : decode cX9_passSignal 150 = .ok (.iload_n 1, 1) := by decide +kernel
theorem dX9_passSignal_151 : decode cX9_passSignal 151 = .ok (.invokevirtual 281, 3) := by decide +kernel
theorem dX9_passSignal_154 : decode cX9_passSignal 154 = .ok (.iconst 1, 1) := by decide +kernel
theorem dX9_passSignal_155 : decode cX9_passSignal 155 = .ok (.ireturn, 1) := by decide +kernel
theorem dX9_passSignal_156 : decode cX9_passSignal 156 = .ok (.aload_n 0, 1) := by decide +kernel
theorem dX9_passSignal_157 : decode cX9_passSignal 157 = .ok (.aload_n 0, 1) := by decide +kernel
theorem dX9_passSignal_158 : decode cX9_passSignal 158 = .ok (.getfield 48, 3) := by decide +kernel
theorem dX9_passSignal_161 : decode cX9_passSignal 161 = .ok (.iload_n 3, 1) := by decide +kernel
theorem dX9_passSignal_162 : decode cX9_passSignal 162 = .ok (.iaload, 1) := by decide +kernel
theorem dX9_passSignal_163 : decode cX9_passSignal 163 = .ok (.iload_n 3, 1) := by decide +kernel
theorem dX9_passSignal_164 : decode cX9_passSignal 164 = .ok (.invokevirtual 291, 3) := by decide +kernel
theorem dX9_passSignal_167 : decode cX9_passSignal 167 = .ok (.aload_n 0, 1) := by decide +kernel
theorem dX9_passSignal_168 : decode cX9_passSignal 168 = .ok (.iload_n 1, 1) := by decide +kernel
theorem dX9_passSignal_169 : decode cX9_passSignal 169 = .ok (.iload_n 3, 1) := by decide +kernel
theorem dX9_passSignal_170 : decode cX9_passSignal 170 = .ok (.invokevirtual 291, 3) := by decide +kernel
theorem dX9_passSignal_173 : decode cX9_passSignal 173 = .ok (.aload_n 0, 1) := by decide +kernel
theorem dX9_passSignal_174 : decode cX9_passSignal 174 = .ok (.getfield 32, 3) := by decide +kernel
theorem dX9_passSignal_177 : decode cX9_passSignal 177 = .ok (.iload_n 3, 1) := by decide +kernel
theorem dX9_passSignal_178 : decode cX9_passSignal 178 = .ok (.iconst 1, 1) := by decide +kernel
theorem dX9_passSignal_179 : decode cX9_passSignal 179 = .ok (.bastore, 1) := by decide +kernel
theorem dX9_passSignal_180 : decode cX9_passSignal 180 = .ok (.iconst 0, 1) := by decide +kernel
theorem dX9_passSignal_181 : decode cX9_passSignal 181 = .ok (.ireturn, 1) := by decide +kernel
theorem dX9_clear_0 : decode cX9_clear 0 = .ok (.aload_n 0, 1) := by decide +kernel
theorem dX9_clear_1 : decode cX9_clear 1 = .ok (.aload_n 0, 1) := by decide +kernel
theorem dX9_clear_2 : decode cX9_clear 2 = .ok (.iload_n 1, 1) := by decide +kernel
theorem dX9_clear_3 : decode cX9_clear 3 = .ok (.invokevirtual 201, 3) := by decide +kernel
theorem dX9_clear_6 : decode cX9_clear 6 = .ok (.ifCond .ne 7, 3) := by decide +kernel
theorem dX9_clear_9 : decode cX9_clear 9 = .ok (.iconst 1, 1) := by decide +kernel
theorem dX9_clear_10 : decode cX9_clear 10 = .ok (.goto 17, 3) := by decide +kernel
theorem dX9_clear_13 : decode cX9_clear 13 = .ok (.aload_n 0, 1) := by decide +kernel
theorem dX9_clear_14 : decode cX9_clear 14 = .ok (.getfield 32, 3) := by decide +kernel
theorem dX9_clear_17 : decode cX9_clear 17 = .ok (.iload_n 1, 1) := by decide +kernel
theorem dX9_clear_18 : decode cX9_clear 18 = .ok (.baload, 1) := by decide +kernel
theorem dX9_clear_19 : decode cX9_clear 19 = .ok (.ifCond .ne 7, 3) := by decide +kernel
theorem dX9_clear_22 : decode cX9_clear 22 = .ok (.iconst 2, 1) := by decide +kernel
theorem dX9_clear_23 : decode cX9_clear 23 = .ok (.goto 4, 3) := by decide +kernel
theorem dX9_clear_26 : decode cX9_clear 26 = .ok (.iconst 0, 1) := by decide +kernel
theorem dX9_clear_27 : decode cX9_clear 27 = .ok (.putfield 174, 3) := by decide +kernel
theorem dX9_clear_30 : decode cX9_clear 30 = .ok (.aload_n 0, 1) := by decide +kernel
theorem dX9_clear_31 : decode cX9_clear 31 = .ok (.getfield 174, 3) := by decide +kernel
theorem dX9_clear_34 : decode cX9_clear 34 = .ok (.ifCond .le 5, 3) := by decide +kernel
theorem dX9_clear_37 : decode cX9_clear 37 = .ok (.iconst 0, 1) := by decide +kernel
theorem dX9_clear_38 : decode cX9_clear 38 = .ok (.ireturn, 1) := by decide +kernel
theorem dX9_clear_39 : decode cX9_clear 39 = .ok (.iconst 0, 1) := by decide +kernel
theorem dX9_clear_40 : decode cX9_clear 40 = .ok (.istore_n 2, 1) := by decide +kernel
theorem dX9_clear_41 : decode cX9_clear 41 = .ok (.aload_n 0, 1) := by decide +kernel
theorem dX9_clear_42 : decode cX9_clear 42 = .ok (.dup, 1) := by decide +kernel
theorem dX9_clear_43 : decode cX9_clear 43 = .ok (.getfield 7, 3) := by decide +kernel
theorem dX9_clear_46 : decode cX9_clear 46 = .ok (.sipush 500, 3) := by decide +kernel
theorem dX9_clear_49 : decode cX9_clear 49 = .ok (.isub, 1) := by decide +kernel
theorem dX9_clear_50 : decode cX9_clear 50 = .ok (.putfield 7, 3) := by decide +kernel
theorem dX9_clear_53 : decode cX9_clear 53 = .ok (.aload_n 0, 1) := by decide +kernel
theorem dX9_clear_54 : decode cX9_clear 54 = .ok (.getfield 32, 3) := by decide +kernel
theorem dX9_clear_57 : decode cX9_clear 57 = .ok (.iload_n 1, 1) := by decide +kernel
theorem dX9_clear_58 : decode cX9_clear 58 = .ok (.iconst 0, 1) := by decide +kernel
theorem dX9_clear_59 : decode cX9_clear 59 = .ok (.bastore, 1) := by decide +kernel
theorem dX9_clear_60 : decode cX9_clear 60 = .ok (.aload_n 0, 1) := by decide +kernel
theorem dX9_clear_61 : decode cX9_clear 61 = .ok (.getfield 29, 3) := by decide +kernel
theorem dX9_clear_64 : decode cX9_clear 64 = .ok (.iload_n 1, 1) := by decide +kernel
theorem dX9_clear_65 : decode cX9_clear 65 = .ok (.iconst 0, 1) := by decide +kernel
theorem dX9_clear_66 : decode cX9_clear 66 = .ok (.iastore, 1) := by decide +kernel
theorem dX9_clear_67 : decode cX9_clear 67 = .ok (.iconst 0, 1) := by decide +kernel
theorem dX9_clear_68 : decode cX9_clear 68 = .ok (.istore_n 3, 1) := by decide +kernel
theorem dX9_clear_69 : decode cX9_clear 69 = .ok (.iload_n 3, 1) := by decide +kernel
theorem dX9_clear_70 : decode cX9_clear 70 = .ok (.bipush 6, 2) := by decide +kernel
theorem dX9_clear_72 : decode cX9_clear 72 = .ok (.if_icmp .ge 98, 3) := by decide +kernel
theorem dX9_clear_75 : decode cX9_clear 75 = .ok (.aload_n 0, 1) := by decide +kernel
theorem dX9_clear_76 : decode cX9_clear 76 = .ok (.getfield 96, 3) := by decide +kernel
theorem dX9_clear_79 : decode cX9_clear 79 = .ok (.iload_n 3, 1) := by decide +kernel
theorem dX9_clear_80 : decode cX9_clear 80 = .ok (.baload, 1) := by decide +kernel
theorem dX9_clear_81 : decode cX9_clear 81 = .ok (.ifCond .eq 83, 3) := by decide +kernel
theorem dX9_clear_84 : decode cX9_clear 84 = .ok (.aload_n 0, 1) := by decide +kernel
theorem dX9_clear_85 : decode cX9_clear 85 = .ok (.getfield 105, 3) := by decide +kernel
theorem dX9_clear_88 : decode cX9_clear 88 = .ok (.iload_n 3, 1) := by decide +kernel
theorem dX9_clear_89 : decode cX9_clear 89 = .ok (.iaload, 1) := by decide +kernel
theorem dX9_clear_90 : decode cX9_clear 90 = .ok (.iconst 3, 1) := by decide +kernel
theorem dX9_clear_91 : decode cX9_clear 91 = .ok (.if_icmp .ne 73, 3) := by decide +kernel
theorem dX9_clear_94 : decode cX9_clear 94 = .ok (.aload_n 0, 1) := by decide +kernel
theorem dX9_clear_95 : decode cX9_clear 95 = .ok (.getfield 111, 3) := by decide +kernel
theorem dX9_clear_98 : decode cX9_clear 98 = .ok (.iload_n 3, 1) := by decide +kernel
theorem dX9_clear_99 : decode cX9_clear 99 = .ok (.iaload, 1) := by decide +kernel
theorem dX9_clear_100 : decode cX9_clear 100 = .ok (.iload_n 1, 1) := by decide +kernel
theorem dX9_clear_101 : decode cX9_clear 101 = .ok (.if_icmp .ne 63, 3) := by decide +kernel
theorem dX9_clear_104 : decode cX9_clear 104 = .ok (.aload_n 0, 1) := by decide +kernel
theorem dX9_clear_105 : decode cX9_clear 105 = .ok (.iload_n 3, 1) := by decide +kernel
theorem dX9_clear_106 : decode cX9_clear 106 = .ok (.aload_n 0, 1) := by decide +kernel
theorem dX9_clear_107 : decode cX9_clear 107 = .ok (.getfield 17, 3) := by decide +kernel
theorem dX9_clear_110 : decode cX9_clear 110 = .ok (.iconst 2, 1) := by decide +kernel
theorem dX9_clear_111 : decode cX9_clear 111 = .ok (.iload_n 1, 1) := by decide +kernel
theorem dX9_clear_112 : decode cX9_clear 112 = .ok (.imul, 1) := by decide +kernel
theorem dX9_clear_113 : decode cX9_clear 113 = .ok (.iaload, 1) := by decide +kernel
theorem dX9_clear_114 : decode cX9_clear 114 = .ok (.invokevirtual 243, 3) := by decide +kernel
theorem dX9_clear_117 : decode cX9_clear 117 = .ok (.iconst 0, 1) := by decide +kernel
theorem dX9_clear_118 : decode cX9_clear 118 = .ok (.istore 4, 2) := by decide +kernel
theorem dX9_clear_120 : decode cX9_clear 120 = .ok (.iload 4, 2) := by decide +kernel
theorem dX9_clear_122 : decode cX9_clear 122 = .ok (.aload_n 0, 1) := by decide +kernel
theorem dX9_clear_123 : decode cX9_clear 123 = .ok (.getfield 120, 3) := by decide +kernel
theorem dX9_clear_126 : decode cX9_clear 126 = .ok (.iload_n 3, 1) := by decide +kernel
theorem dX9_clear_127 : decode cX9_clear 127 = .ok (.iaload, 1) := by decide +kernel
theorem dX9_clear_128 : decode cX9_clear 128 = .ok (.if_icmp .ge 33, 3) := by decide +kernel
theorem dX9_clear_131 : decode cX9_clear 131 = .ok (.aload_n 0, 1) := by decide +kernel
theorem dX9_clear_132 : decode cX9_clear 132 = .ok (.aload_n 0, 1) := by decide +kernel
theorem dX9_clear_133 : decode cX9_clear 133 = .ok (.getfield 117, 3) := by decide +kernel
theorem dX9_clear_136 : decode cX9_clear 136 = .ok (.bipush 10, 2) := by decide +kernel
theorem dX9_clear_138 : decode cX9_clear 138 = .ok (.iload_n 3, 1) := by decide +kernel
theorem dX9_clear_139 : decode cX9_clear 139 = .ok (.imul, 1) := by decide +kernel
theorem dX9_clear_140 : decode cX9_clear 140 = .ok (.iload 4, 2) := by decide +kernel
theorem dX9_clear_142 : decode cX9_clear 142 = .ok (.iadd, 1) := by decide +kernel
theorem dX9_clear_143 : decode cX9_clear 143 = .ok (.iaload, 1) := by decide +kernel
theorem dX9_clear_144 : decode cX9_clear 144 = .ok (.aload_n 0, 1) := by decide +kernel
theorem dX9_clear_145 : decode cX9_clear 145 = .ok (.getfield 17, 3) := by decide +kernel
theorem dX9_clear_148 : decode cX9_clear 148 = .ok (.iconst 2, 1) := by decide +kernel
theorem dX9_clear_149 : decode cX9_clear 149 = .ok (.iload_n 1, 1) := by decide +kernel
theorem dX9_clear_150 : decode cX9_clear 150 = .ok (.imul, 1) := by decide +kernel
theorem dX9_clear_151 : decode cX9_clear 151 = .ok (.iaload, 1) := by decide +kernel
theorem dX9_clear_152 : decode cX9_clear 152 = .ok (.invokevirtual 222, 3) := by decide +kernel
theorem dX9_clear_155 : decode cX9_clear 155 = .ok (.iinc 4 1, 3) := by decide +kernel
theorem dX9_clear_158 : decode cX9_clear 158 = .ok (.goto (-38), 3) := by decide +kernel
theorem dX9_clear_161 : decode cX9_clear 161 = .ok (.iinc 2 1, 3) := by decide +kernel
theorem dX9_clear_164 : decode cX9_clear 164 = .ok (.iinc 3 1, 3) := by decide +kernel
theorem dX9_clear_167 : decode cX9_clear 167 = .ok (.goto (-98), 3) := by decide +kernel
theorem dX9_clear_170 : decode cX9_clear 170 = .ok (.iload_n 2, 1) := by decide +kernel
theorem dX9_clear_171 : decode cX9_clear 171 = .ok (.ireturn, 1) := by decide +kernel
theorem dX9_rate_0 : decode cX9_rate 0 = .ok (.aload_n 0, 1) := by decide +kernel
theorem dX9_rate_1 : decode cX9_rate 1 = .ok (.iload_n 1, 1) := by decide +kernel
theorem dX9_rate_2 : decode cX9_rate 2 = .ok (.invokestatic 193, 3) := by decide +kernel
theorem dX9_rate_5 : decode cX9_rate 5 = .ok (.ifCond .eq 10, 3) := by decide +kernel
theorem dX9_rate_8 : decode cX9_rate 8 = .ok (.iload_n 2, 1) := by decide +kernel
theorem dX9_rate_9 : decode cX9_rate 9 = .ok (.invokestatic 193, 3) := by decide +kernel
theorem dX9_rate_12 : decode cX9_rate 12 = .ok (.ifCond .ne 7, 3) := by decide +kernel
theorem dX9_rate_15 : decode cX9_rate 15 = .ok (.iconst 1, 1) := by decide +kernel
theorem dX9_rate_16 : decode cX9_rate 16 = .ok (.goto 20, 3) := by decide +kernel
theorem dX9_rate_19 : decode cX9_rate 19 = .ok (.iload 4, 2) := by decide +kernel
theorem dX9_rate_21 : decode cX9_rate 21 = .ok (.iconst 1, 1) := by decide +kernel
theorem dX9_rate_22 : decode cX9_rate 22 = .ok (.sipush 999, 3) := by decide +kernel
theorem dX9_rate_25 : decode cX9_rate 25 = .ok (.invokestatic 177, 3) := by decide +kernel
theorem dX9_rate_28 : decode cX9_rate 28 = .ok (.ifCond .ne 7, 3) := by decide +kernel
theorem dX9_rate_31 : decode cX9_rate 31 = .ok (.iconst 2, 1) := by decide +kernel
theorem dX9_rate_32 : decode cX9_rate 32 = .ok (.goto 4, 3) := by decide +kernel
theorem dX9_rate_35 : decode cX9_rate 35 = .ok (.iconst 0, 1) := by decide +kernel
theorem dX9_rate_36 : decode cX9_rate 36 = .ok (.putfield 174, 3) := by decide +kernel
theorem dX9_rate_39 : decode cX9_rate 39 = .ok (.aload_n 0, 1) := by decide +kernel
theorem dX9_rate_40 : decode cX9_rate 40 = .ok (.getfield 174, 3) := by decide +kernel
theorem dX9_rate_43 : decode cX9_rate 43 = .ok (.ifCond .le 5, 3) := by decide +kernel
theorem dX9_rate_46 : decode cX9_rate 46 = .ok (.iconst 0, 1) := by decide +kernel
theorem dX9_rate_47 : decode cX9_rate 47 = .ok (.ireturn, 1) := by decide +kernel
theorem dX9_rate_48 : decode cX9_rate 48 = .ok (.iload_n 3, 1) := by decide +kernel
theorem dX9_rate_49 : decode cX9_rate 49 = .ok (.ifCond .eq 8, 3) := by decide +kernel
theorem dX9_rate_52 : decode cX9_rate 52 = .ok (.bipush 64, 2) := by decide +kernel
theorem dX9_rate_54 : decode cX9_rate 54 = .ok (.goto 4, 3) := by decide +kernel
theorem dX9_rate_57 : decode cX9_rate 57 = .ok (.iconst 0, 1) := by decide +kernel
theorem dX9_rate_58 : decode cX9_rate 58 = .ok (.bipush 8, 2) := by decide +kernel
theorem dX9_rate_60 : decode cX9_rate 60 = .ok (.iload_n 1, 1) := by decide +kernel
theorem dX9_rate_61 : decode cX9_rate 61 = .ok (.imul, 1) := by decide +kernel
theorem dX9_rate_62 : decode cX9_rate 62 = .ok (.iadd, 1) := by decide +kernel
theorem dX9_rate_63 : decode cX9_rate 63 = .ok (.iload_n 2, 1) := by decide +kernel
theorem dX9_rate_64 : decode cX9_rate 64 = .ok (.iadd, 1) := by decide +kernel
theorem dX9_rate_65 : decode cX9_rate 65 = .ok (.istore 5, 2) := by decide +kernel
theorem dX9_rate_67 : decode cX9_rate 67 = .ok (.aload_n 0, 1) := by decide +kernel
theorem dX9_rate_68 : decode cX9_rate 68 = .ok (.getfield 159, 3) := by decide +kernel
theorem dX9_rate_71 : decode cX9_rate 71 = .ok (.iload 5, 2) := by decide +kernel
theorem dX9_rate_73 : decode cX9_rate 73 = .ok (.iaload, 1) := by decide +kernel
theorem dX9_rate_74 : decode cX9_rate 74 = .ok (.istore 6, 2) := by decide +kernel
theorem dX9_rate_76 : decode cX9_rate 76 = .ok (.aload_n 0, 1) := by decide +kernel
theorem dX9_rate_77 : decode cX9_rate 77 = .ok (.getfield 159, 3) := by decide +kernel
theorem dX9_rate_80 : decode cX9_rate 80 = .ok (.iload 5, 2) := by decide +kernel
theorem dX9_rate_82 : decode cX9_rate 82 = .ok (.iload 4, 2) := by decide +kernel
theorem dX9_rate_84 : decode cX9_rate 84 = .ok (.iastore, 1) := by decide +kernel
theorem dX9_rate_85 : decode cX9_rate 85 = .ok (.iload 6, 2) := by decide +kernel
theorem dX9_rate_87 : decode cX9_rate 87 = .ok (.ireturn, 1) := by decide +kernel
theorem dX9_offer_0 : decode cX9_offer 0 = .ok (.aload_n 0, 1) := by decide +kernel
theorem dX9_offer_1 : decode cX9_offer 1 = .ok (.iload_n 1, 1) := by decide +kernel
theorem dX9_offer_2 : decode cX9_offer 2 = .ok (.invokestatic 193, 3) := by decide +kernel
theorem dX9_offer_5 : decode cX9_offer 5 = .ok (.ifCond .eq 10, 3) := by decide +kernel
theorem dX9_offer_8 : decode cX9_offer 8 = .ok (.iload_n 2, 1) := by decide +kernel
theorem dX9_offer_9 : decode cX9_offer 9 = .ok (.invokestatic 193, 3) := by decide +kernel
theorem dX9_offer_12 : decode cX9_offer 12 = .ok (.ifCond .ne 7, 3) := by decide +kernel
theorem dX9_offer_15 : decode cX9_offer 15 = .ok (.iconst 1, 1) := by decide +kernel
theorem dX9_offer_16 : decode cX9_offer 16 = .ok (.goto 26, 3) := by decide +kernel
theorem dX9_offer_19 : decode cX9_offer 19 = .ok (.iload_n 1, 1) := by decide +kernel
theorem dX9_offer_20 : decode cX9_offer 20 = .ok (.iload_n 2, 1) := by decide +kernel
theorem dX9_offer_21 : decode cX9_offer 21 = .ok (.if_icmp .ne 7, 3) := by decide +kernel
theorem dX9_offer_24 : decode cX9_offer 24 = .ok (.iconst 2, 1) := by decide +kernel
theorem dX9_offer_25 : decode cX9_offer 25 = .ok (.goto 17, 3) := by decide +kernel
theorem dX9_offer_28 : decode cX9_offer 28 = .ok (.aload_n 0, 1) := by decide +kernel
theorem dX9_offer_29 : decode cX9_offer 29 = .ok (.getfield 294, 3) := by decide +kernel
theorem dX9_offer_32 : decode cX9_offer 32 = .ok (.bipush 40, 2) := by decide +kernel
theorem dX9_offer_34 : decode cX9_offer 34 = .ok (.if_icmp .ne 7, 3) := by decide +kernel
theorem dX9_offer_37 : decode cX9_offer 37 = .ok (.iconst 3, 1) := by decide +kernel
theorem dX9_offer_38 : decode cX9_offer 38 = .ok (.goto 4, 3) := by decide +kernel
theorem dX9_offer_41 : decode cX9_offer 41 = .ok (.iconst 0, 1) := by decide +kernel
theorem dX9_offer_42 : decode cX9_offer 42 = .ok (.putfield 174, 3) := by decide +kernel
theorem dX9_offer_45 : decode cX9_offer 45 = .ok (.aload_n 0, 1) := by decide +kernel
theorem dX9_offer_46 : decode cX9_offer 46 = .ok (.getfield 174, 3) := by decide +kernel
theorem dX9_offer_49 : decode cX9_offer 49 = .ok (.ifCond .le 5, 3) := by decide +kernel
theorem dX9_offer_52 : decode cX9_offer 52 = .ok (.iconst 0, 1) := by decide +kernel
theorem dX9_offer_53 : decode cX9_offer 53 = .ok (.ireturn, 1) := by decide +kernel
theorem dX9_offer_54 : decode cX9_offer 54 = .ok (.aload_n 0, 1) := by decide +kernel
theorem dX9_offer_55 : decode cX9_offer 55 = .ok (.getfield 159, 3) := by decide +kernel
theorem dX9_offer_58 : decode cX9_offer 58 = .ok (.bipush 8, 2) := by decide +kernel
theorem dX9_offer_60 : decode cX9_offer 60 = .ok (.iload_n 1, 1) := by decide +kernel
theorem dX9_offer_61 : decode cX9_offer 61 = .ok (.imul, 1) := by decide +kernel
theorem dX9_offer_62 : decode cX9_offer 62 = .ok (.iload_n 2, 1) := by decide +kernel
theorem dX9_offer_63 : decode cX9_offer 63 = .ok (.iadd, 1) := by decide +kernel
theorem dX9_offer_64 : decode cX9_offer 64 = .ok (.iaload, 1) := by decide +kernel
theorem dX9_offer_65 : decode cX9_offer 65 = .ok (.aload_n 0, 1) := by decide +kernel
theorem dX9_offer_66 : decode cX9_offer 66 = .ok (.getfield 159, 3) := by decide +kernel
theorem dX9_offer_69 : decode cX9_offer 69 = .ok (.bipush 64, 2) := by decide +kernel
theorem dX9_offer_71 : decode cX9_offer 71 = .ok (.bipush 8, 2) := by decide +kernel
theorem dX9_offer_73 : decode cX9_offer 73 = .ok (.iload_n 1, 1) := by decide +kernel
theorem dX9_offer_74 : decode cX9_offer 74 = .ok (.imul, 1) := by decide +kernel
theorem dX9_offer_75 : decode cX9_offer 75 = .ok (.iadd, 1) := by decide +kernel
theorem dX9_offer_76 : decode cX9_offer 76 = .ok (.iload_n 2, 1) := by decide +kernel
theorem dX9_offer_77 : decode cX9_offer 77 = .ok (.iadd, 1) := by decide +kernel
theorem dX9_offer_78 : decode cX9_offer 78 = .ok (.iaload, 1) := by decide +kernel
theorem dX9_offer_79 : decode cX9_offer 79 = .ok (.if_icmp .le 5, 3) := by decide +kernel
theorem dX9_offer_82 : decode cX9_offer 82 = .ok (.iconst (-1), 1) := by decide +kernel
theorem dX9_offer_83 : decode cX9_offer 83 = .ok (.ireturn, 1) := by decide +kernel
theorem dX9_offer_84 : decode cX9_offer 84 = .ok (.aload_n 0, 1) := by decide +kernel
theorem dX9_offer_85 : decode cX9_offer 85 = .ok (.getfield 147, 3) := by decide +kernel
theorem dX9_offer_88 : decode cX9_offer 88 = .ok (.aload_n 0, 1) := by decide +kernel
theorem dX9_offer_89 : decode cX9_offer 89 = .ok (.getfield 294, 3) := by decide +kernel
theorem dX9_offer_92 : decode cX9_offer 92 = .ok (.iload_n 1, 1) := by decide +kernel
theorem dX9_offer_93 : decode cX9_offer 93 = .ok (.iastore, 1) := by decide +kernel
theorem dX9_offer_94 : decode cX9_offer 94 = .ok (.aload_n 0, 1) := by decide +kernel
theorem dX9_offer_95 : decode cX9_offer 95 = .ok (.getfield 150, 3) := by decide +kernel
theorem dX9_offer_98 : decode cX9_offer 98 = .ok (.aload_n 0, 1) := by decide +kernel
theorem dX9_offer_99 : decode cX9_offer 99 = .ok (.getfield 294, 3) := by decide +kernel
theorem dX9_offer_102 : decode cX9_offer 102 = .ok (.iload_n 2, 1) := by decide +kernel
theorem dX9_offer_103 : decode cX9_offer 103 = .ok (.iastore, 1) := by decide +kernel
theorem dX9_offer_104 : decode cX9_offer 104 = .ok (.aload_n 0, 1) := by decide +kernel
theorem dX9_offer_105 : decode cX9_offer 105 = .ok (.getfield 153, 3) := by decide +kernel
theorem dX9_offer_108 : decode cX9_offer 108 = .ok (.aload_n 0, 1) := by decide +kernel
theorem dX9_offer_109 : decode cX9_offer 109 = .ok (.getfield 294, 3) := by decide +kernel
theorem dX9_offer_112 : decode cX9_offer 112 = .ok (.aload_n 0, 1) := by decide +kernel
theorem dX9_offer_113 : decode cX9_offer 113 = .ok (.getfield 159, 3) := by decide +kernel
theorem dX9_offer_116 : decode cX9_offer 116 = .ok (.bipush 8, 2) := by decide +kernel
theorem dX9_offer_118 : decode cX9_offer 118 = .ok (.iload_n 1, 1) := by decide +kernel
theorem dX9_offer_119 : decode cX9_offer 119 = .ok (.imul, 1) := by decide +kernel
theorem dX9_offer_120 : decode cX9_offer 120 = .ok (.iload_n 2, 1) := by decide +kernel
theorem dX9_offer_121 : decode cX9_offer 121 = .ok (.iadd, 1) := by decide +kernel
theorem dX9_offer_122 : decode cX9_offer 122 = .ok (.iaload, 1) := by decide +kernel
theorem dX9_offer_123 : decode cX9_offer 123 = .ok (.iastore, 1) := by decide +kernel
theorem dX9_offer_124 : decode cX9_offer 124 = .ok (.aload_n 0, 1) := by decide +kernel
theorem dX9_offer_125 : decode cX9_offer 125 = .ok (.dup, 1) := by decide +kernel
theorem dX9_offer_126 : decode cX9_offer 126 = .ok (.getfield 294, 3) := by decide +kernel
theorem dX9_offer_129 : decode cX9_offer 129 = .ok (.iconst 1, 1) := by decide +kernel
theorem dX9_offer_130 : decode cX9_offer 130 = .ok (.iadd, 1) := by decide +kernel
theorem dX9_offer_131 : decode cX9_offer 131 = .ok (.putfield 294, 3) := by decide +kernel
theorem dX9_offer_134 : decode cX9_offer 134 = .ok (.aload_n 0, 1) := by decide +kernel
theorem dX9_offer_135 : decode cX9_offer 135 = .ok (.getfield 294, 3) := by decide +kernel
theorem dX9_offer_138 : decode cX9_offer 138 = .ok (.iconst 1, 1) := by decide +kernel
theorem dX9_offer_139 : decode cX9_offer 139 = .ok (.isub, 1) := by decide +kernel
theorem dX9_offer_140 : decode cX9_offer 140 = .ok (.ireturn, 1) := by decide +kernel
theorem dX9_load_0 : decode cX9_load 0 = .ok (.aload_n 0, 1) := by decide +kernel
theorem dX9_load_1 : decode cX9_load 1 = .ok (.aload_n 0, 1) := by decide +kernel
theorem dX9_load_2 : decode cX9_load 2 = .ok (.iload_n 1, 1) := by decide +kernel
theorem dX9_load_3 : decode cX9_load 3 = .ok (.invokevirtual 246, 3) := by decide +kernel
theorem dX9_load_6 : decode cX9_load 6 = .ok (.ifCond .eq 17, 3) := by decide +kernel
theorem dX9_load_9 : decode cX9_load 9 = .ok (.iload_n 2, 1) := by decide +kernel
theorem dX9_load_10 : decode cX9_load 10 = .ok (.iconst 0, 1) := by decide +kernel
theorem dX9_load_11 : decode cX9_load 11 = .ok (.aload_n 0, 1) := by decide +kernel
theorem dX9_load_12 : decode cX9_load 12 = .ok (.getfield 294, 3) := by decide +kernel
theorem dX9_load_15 : decode cX9_load 15 = .ok (.iconst 1, 1) := by decide +kernel
theorem dX9_load_16 : decode cX9_load 16 = .ok (.isub, 1) := by decide +kernel
theorem dX9_load_17 : decode cX9_load 17 = .ok (.invokestatic 177, 3) := by decide +kernel
theorem dX9_load_20 : decode cX9_load 20 = .ok (.ifCond .ne 7, 3) := by decide +kernel
theorem dX9_load_23 : decode cX9_load 23 = .ok (.iconst 1, 1) := by decide +kernel
theorem dX9_load_24 : decode cX9_load 24 = .ok (.goto 52, 3) := by decide +kernel
theorem dX9_load_27 : decode cX9_load 27 = .ok (.aload_n 0, 1) := by decide +kernel
theorem dX9_load_28 : decode cX9_load 28 = .ok (.getfield 84, 3) := by decide +kernel
theorem dX9_load_31 : decode cX9_load 31 = .ok (.iload_n 1, 1) := by decide +kernel
theorem dX9_load_32 : decode cX9_load 32 = .ok (.iaload, 1) := by decide +kernel
theorem dX9_load_33 : decode cX9_load 33 = .ok (.iconst (-1), 1) := by decide +kernel
theorem dX9_load_34 : decode cX9_load 34 = .ok (.if_icmp .ne 37, 3) := by decide +kernel
theorem dX9_load_37 : decode cX9_load 37 = .ok (.aload_n 0, 1) := by decide +kernel
theorem dX9_load_38 : decode cX9_load 38 = .ok (.getfield 87, 3) := by decide +kernel
theorem dX9_load_41 : decode cX9_load 41 = .ok (.iload_n 1, 1) := by decide +kernel
theorem dX9_load_42 : decode cX9_load 42 = .ok (.iaload, 1) := by decide +kernel
theorem dX9_load_43 : decode cX9_load 43 = .ok (.iconst (-1), 1) := by decide +kernel
theorem dX9_load_44 : decode cX9_load 44 = .ok (.if_icmp .ne 27, 3) := by decide +kernel
theorem dX9_load_47 : decode cX9_load 47 = .ok (.aload_n 0, 1) := by decide +kernel
theorem dX9_load_48 : decode cX9_load 48 = .ok (.getfield 156, 3) := by decide +kernel
theorem dX9_load_51 : decode cX9_load 51 = .ok (.iload_n 2, 1) := by decide +kernel
theorem dX9_load_52 : decode cX9_load 52 = .ok (.baload, 1) := by decide +kernel
theorem dX9_load_53 : decode cX9_load 53 = .ok (.ifCond .ne 18, 3) := by decide +kernel
theorem dX9_load_56 : decode cX9_load 56 = .ok (.aload_n 0, 1) := by decide +kernel
theorem dX9_load_57 : decode cX9_load 57 = .ok (.getfield 81, 3) := by decide +kernel
theorem dX9_load_60 : decode cX9_load 60 = .ok (.iload_n 1, 1) := by decide +kernel
theorem dX9_load_61 : decode cX9_load 61 = .ok (.iaload, 1) := by decide +kernel
theorem dX9_load_62 : decode cX9_load 62 = .ok (.aload_n 0, 1) := by decide +kernel
theorem dX9_load_63 : decode cX9_load 63 = .ok (.getfield 147, 3) := by decide +kernel
theorem dX9_load_66 : decode cX9_load 66 = .ok (.iload_n 2, 1) := by decide +kernel
theorem dX9_load_67 : decode cX9_load 67 = .ok (.iaload, 1) := by decide +kernel
theorem dX9_load_68 : decode cX9_load 68 = .ok (.if_icmp .eq 7, 3) := by decide +kernel
theorem dX9_load_71 : decode cX9_load 71 = .ok (.iconst 2, 1) := by decide +kernel
theorem dX9_load_72 : decode cX9_load 72 = .ok (.goto 4, 3) := by decide +kernel
theorem dX9_load_75 : decode cX9_load 75 = .ok (.iconst 0, 1) := by decide +kernel
theorem dX9_load_76 : decode cX9_load 76 = .ok (.putfield 174, 3) := by decide +kernel
theorem dX9_load_79 : decode cX9_load 79 = .ok (.aload_n 0, 1) := by decide +kernel
theorem dX9_load_80 : decode cX9_load 80 = .ok (.getfield 174, 3) := by decide +kernel
theorem dX9_load_83 : decode cX9_load 83 = .ok (.ifCond .ne 24, 3) := by decide +kernel
theorem dX9_load_86 : decode cX9_load 86 = .ok (.aload_n 0, 1) := by decide +kernel
theorem dX9_load_87 : decode cX9_load 87 = .ok (.getfield 87, 3) := by decide +kernel
theorem dX9_load_90 : decode cX9_load 90 = .ok (.iload_n 1, 1) := by decide +kernel
theorem dX9_load_91 : decode cX9_load 91 = .ok (.iload_n 2, 1) := by decide +kernel
theorem dX9_load_92 : decode cX9_load 92 = .ok (.iastore, 1) := by decide +kernel
theorem dX9_load_93 : decode cX9_load 93 = .ok (.aload_n 0, 1) := by decide +kernel
theorem dX9_load_94 : decode cX9_load 94 = .ok (.getfield 156, 3) := by decide +kernel
theorem dX9_load_97 : decode cX9_load 97 = .ok (.iload_n 2, 1) := by decide +kernel
theorem dX9_load_98 : decode cX9_load 98 = .ok (.iconst 1, 1) := by decide +kernel
theorem dX9_load_99 : decode cX9_load 99 = .ok (.bastore, 1) := by decide +kernel
theorem dX9_load_100 : decode cX9_load 100 = .ok (.aload_n 0, 1) := by decide +kernel
theorem dX9_load_101 : decode cX9_load 101 = .ok (.iload_n 1, 1) := by decide +kernel
theorem dX9_load_102 : decode cX9_load 102 = .ok (.iconst 2, 1) := by decide +kernel
theorem dX9_load_103 : decode cX9_load 103 = .ok (.iload_n 2, 1) := by decide +kernel
theorem dX9_load_104 : decode cX9_load 104 = .ok (.invokevirtual 226, 3) := by decide +kernel
theorem dX9_load_107 : decode cX9_load 107 = .ok (.return_, 1) := by decide +kernel
theorem dX9_unload_0 : decode cX9_unload 0 = .ok (.aload_n 0, 1) := by decide +kernel
theorem dX9_unload_1 : decode cX9_unload 1 = .ok (.aload_n 0, 1) := by decide +kernel
theorem dX9_unload_2 : decode cX9_unload 2 = .ok (.iload_n 1, 1) := by decide +kernel
theorem dX9_unload_3 : decode cX9_unload 3 = .ok (.invokevirtual 246, 3) := by decide +kernel
theorem dX9_unload_6 : decode cX9_unload 6 = .ok (.ifCond .ne 7, 3) := by decide +kernel
theorem dX9_unload_9 : decode cX9_unload 9 = .ok (.iconst 1, 1) := by decide +kernel
theorem dX9_unload_10 : decode cX9_unload 10 = .ok (.goto 48, 3) := by decide +kernel
theorem dX9_unload_13 : decode cX9_unload 13 = .ok (.aload_n 0, 1) := by decide +kernel
theorem dX9_unload_14 : decode cX9_unload 14 = .ok (.getfield 84, 3) := by decide +kernel
theorem dX9_unload_17 : decode cX9_unload 17 = .ok (.iload_n 1, 1) := by decide +kernel
theorem dX9_unload_18 : decode cX9_unload 18 = .ok (.iaload, 1) := by decide +kernel
theorem dX9_unload_19 : decode cX9_unload 19 = .ok (.iconst (-1), 1) := by decide +kernel
theorem dX9_unload_20 : decode cX9_unload 20 = .ok (.if_icmp .ne 33, 3) := by decide +kernel
theorem dX9_unload_23 : decode cX9_unload 23 = .ok (.aload_n 0, 1) := by decide +kernel
theorem dX9_unload_24 : decode cX9_unload 24 = .ok (.getfield 87, 3) := by decide +kernel
theorem dX9_unload_27 : decode cX9_unload 27 = .ok (.iload_n 1, 1) := by decide +kernel
theorem dX9_unload_28 : decode cX9_unload 28 = .ok (.iaload, 1) := by decide +kernel
theorem dX9_unload_29 : decode cX9_unload 29 = .ok (.iconst (-1), 1) := by decide +kernel
theorem dX9_unload_30 : decode cX9_unload 30 = .ok (.if_icmp .eq 23, 3) := by decide +kernel
theorem dX9_unload_33 : decode cX9_unload 33 = .ok (.aload_n 0, 1) := by decide +kernel
theorem dX9_unload_34 : decode cX9_unload 34 = .ok (.getfield 81, 3) := by decide +kernel
theorem dX9_unload_37 : decode cX9_unload 37 = .ok (.iload_n 1, 1) := by decide +kernel
theorem dX9_unload_38 : decode cX9_unload 38 = .ok (.iaload, 1) := by decide +kernel
theorem dX9_unload_39 : decode cX9_unload 39 = .ok (.aload_n 0, 1) := by decide +kernel
theorem dX9_unload_40 : decode cX9_unload 40 = .ok (.getfield 150, 3) := by decide +kernel
theorem dX9_unload_43 : decode cX9_unload 43 = .ok (.aload_n 0, 1) := by decide +kernel
theorem dX9_unload_44 : decode cX9_unload 44 = .ok (.getfield 87, 3) := by decide +kernel
theorem dX9_unload_47 : decode cX9_unload 47 = .ok (.iload_n 1, 1) := by decide +kernel
theorem dX9_unload_48 : decode cX9_unload 48 = .ok (.iaload, 1) := by decide +kernel
theorem dX9_unload_49 : decode cX9_unload 49 = .ok (.iaload, 1) := by decide +kernel
theorem dX9_unload_50 : decode cX9_unload 50 = .ok (.if_icmp .eq 7, 3) := by decide +kernel
theorem dX9_unload_53 : decode cX9_unload 53 = .ok (.iconst 2, 1) := by decide +kernel
theorem dX9_unload_54 : decode cX9_unload 54 = .ok (.goto 4, 3) := by decide +kernel
theorem dX9_unload_57 : decode cX9_unload 57 = .ok (.iconst 0, 1) := by decide +kernel
theorem dX9_unload_58 : decode cX9_unload 58 = .ok (.putfield 174, 3) := by decide +kernel
theorem dX9_unload_61 : decode cX9_unload 61 = .ok (.aload_n 0, 1) := by decide +kernel
theorem dX9_unload_62 : decode cX9_unload 62 = .ok (.getfield 174, 3) := by decide +kernel
theorem dX9_unload_65 : decode cX9_unload 65 = .ok (.ifCond .le 5, 3) := by decide +kernel
theorem dX9_unload_68 : decode cX9_unload 68 = .ok (.iconst 0, 1) := by decide +kernel
theorem dX9_unload_69 : decode cX9_unload 69 = .ok (.ireturn, 1) := by decide +kernel
theorem dX9_unload_70 : decode cX9_unload 70 = .ok (.aload_n 0, 1) := by decide +kernel
theorem dX9_unload_71 : decode cX9_unload 71 = .ok (.getfield 87, 3) := by decide +kernel
theorem dX9_unload_74 : decode cX9_unload 74 = .ok (.iload_n 1, 1) := by decide +kernel
theorem dX9_unload_75 : decode cX9_unload 75 = .ok (.iaload, 1) := by decide +kernel
theorem dX9_unload_76 : decode cX9_unload 76 = .ok (.istore_n 2, 1) := by decide +kernel
theorem dX9_unload_77 : decode cX9_unload 77 = .ok (.aload_n 0, 1) := by decide +kernel
theorem dX9_unload_78 : decode cX9_unload 78 = .ok (.getfield 87, 3) := by decide +kernel
theorem dX9_unload_81 : decode cX9_unload 81 = .ok (.iload_n 1, 1) := by decide +kernel
theorem dX9_unload_82 : decode cX9_unload 82 = .ok (.iconst (-1), 1) := by decide +kernel
theorem dX9_unload_83 : decode cX9_unload 83 = .ok (.iastore, 1) := by decide +kernel
theorem dX9_unload_84 : decode cX9_unload 84 = .ok (.aload_n 0, 1) := by decide +kernel
theorem dX9_unload_85 : decode cX9_unload 85 = .ok (.dup, 1) := by decide +kernel
theorem dX9_unload_86 : decode cX9_unload 86 = .ok (.getfield 7, 3) := by decide +kernel
theorem dX9_unload_89 : decode cX9_unload 89 = .ok (.aload_n 0, 1) := by decide +kernel
theorem dX9_unload_90 : decode cX9_unload 90 = .ok (.getfield 153, 3) := by decide +kernel
theorem dX9_unload_93 : decode cX9_unload 93 = .ok (.iload_n 2, 1) := by decide +kernel
theorem dX9_unload_94 : decode cX9_unload 94 = .ok (.iaload, 1) := by decide +kernel
theorem dX9_unload_95 : decode cX9_unload 95 = .ok (.iadd, 1) := by decide +kernel
theorem dX9_unload_96 : decode cX9_unload 96 = .ok (.putfield 7, 3) := by decide +kernel
theorem dX9_unload_99 : decode cX9_unload 99 = .ok (.aload_n 0, 1) := by decide +kernel
theorem dX9_unload_100 : decode cX9_unload 100 = .ok (.iload_n 1, 1) := by decide +kernel
theorem dX9_unload_101 : decode cX9_unload 101 = .ok (.iconst 3, 1) := by decide +kernel
theorem dX9_unload_102 : decode cX9_unload 102 = .ok (.iload_n 2, 1) := by decide +kernel
theorem dX9_unload_103 : decode cX9_unload 103 = .ok (.invokevirtual 226, 3) := by decide +kernel
theorem dX9_unload_106 : decode cX9_unload 106 = .ok (.aload_n 0, 1) := by decide +kernel
theorem dX9_unload_107 : decode cX9_unload 107 = .ok (.getfield 153, 3) := by decide +kernel
theorem dX9_unload_110 : decode cX9_unload 110 = .ok (.iload_n 2, 1) := by decide +kernel
theorem dX9_unload_111 : decode cX9_unload 111 = .ok (.iaload, 1) := by decide +kernel
theorem dX9_unload_112 : decode cX9_unload 112 = .ok (.ireturn, 1) := by decide +kernel
theorem dX9_goal_0 : decode cX9_goal 0 = .ok (.aload_n 0, 1) := by decide +kernel
theorem dX9_goal_1 : decode cX9_goal 1 = .ok (.getfield 87, 3) := by decide +kernel
theorem dX9_goal_4 : decode cX9_goal 4 = .ok (.iload_n 1, 1) := by decide +kernel
theorem dX9_goal_5 : decode cX9_goal 5 = .ok (.iaload, 1) := by decide +kernel
theorem dX9_goal_6 : decode cX9_goal 6 = .ok (.iconst (-1), 1) := by decide +kernel
theorem dX9_goal_7 : decode cX9_goal 7 = .ok (.if_icmp .ne 12, 3) := by decide +kernel
theorem dX9_goal_10 : decode cX9_goal 10 = .ok (.aload_n 0, 1) := by decide +kernel
theorem dX9_goal_11 : decode cX9_goal 11 = .ok (.getfield 78, 3) := by decide +kernel
theorem dX9_goal_14 : decode cX9_goal 14 = .ok (.iload_n 1, 1) := by decide +kernel
theorem dX9_goal_15 : decode cX9_goal 15 = .ok (.iaload, 1) := by decide +kernel
theorem dX9_goal_16 : decode cX9_goal 16 = .ok (.goto 14, 3) := by decide +kernel
theorem dX9_goal_19 : decode cX9_goal 19 = .ok (.aload_n 0, 1) := by decide +kernel
theorem dX9_goal_20 : decode cX9_goal 20 = .ok (.getfield 150, 3) := by decide +kernel
theorem dX9_goal_23 : decode cX9_goal 23 = .ok (.aload_n 0, 1) := by decide +kernel
theorem dX9_goal_24 : decode cX9_goal 24 = .ok (.getfield 87, 3) := by decide +kernel
theorem dX9_goal_27 : decode cX9_goal 27 = .ok (.iload_n 1, 1) := by decide +kernel
theorem dX9_goal_28 : decode cX9_goal 28 = .ok (.iaload, 1) := by decide +kernel
theorem dX9_goal_29 : decode cX9_goal 29 = .ok (.iaload, 1) := by decide +kernel
theorem dX9_goal_30 : decode cX9_goal 30 = .ok (.ireturn, 1) := by decide +kernel
theorem dX9_sort_0 : decode cX9_sort 0 = .ok (.aload_n 0, 1) := by decide +kernel
theorem dX9_sort_1 : decode cX9_sort 1 = .ok (.iload_n 1, 1) := by decide +kernel
theorem dX9_sort_2 : decode cX9_sort 2 = .ok (.invokestatic 193, 3) := by decide +kernel
theorem dX9_sort_5 : decode cX9_sort 5 = .ok (.ifCond .eq 7, 3) := by decide +kernel
theorem dX9_sort_8 : decode cX9_sort 8 = .ok (.iconst 0, 1) := by decide +kernel
theorem dX9_sort_9 : decode cX9_sort 9 = .ok (.goto 4, 3) := by decide +kernel
theorem dX9_sort_12 : decode cX9_sort 12 = .ok (.iconst 1, 1) := by decide +kernel
theorem dX9_sort_13 : decode cX9_sort 13 = .ok (.putfield 174, 3) := by decide +kernel
theorem dX9_sort_16 : decode cX9_sort 16 = .ok (.aload_n 0, 1) := by decide +kernel
theorem dX9_sort_17 : decode cX9_sort 17 = .ok (.getfield 174, 3) := by decide +kernel
theorem dX9_sort_20 : decode cX9_sort 20 = .ok (.ifCond .le 5, 3) := by decide +kernel
theorem dX9_sort_23 : decode cX9_sort 23 = .ok (.iconst 0, 1) := by decide +kernel
theorem dX9_sort_24 : decode cX9_sort 24 = .ok (.ireturn, 1) := by decide +kernel
theorem dX9_sort_25 : decode cX9_sort 25 = .ok (.iconst 0, 1) := by decide +kernel
theorem dX9_sort_26 : decode cX9_sort 26 = .ok (.istore_n 2, 1) := by decide +kernel
theorem dX9_sort_27 : decode cX9_sort 27 = .ok (.iconst 0, 1) := by decide +kernel
theorem dX9_sort_28 : decode cX9_sort 28 = .ok (.istore_n 3, 1) := by decide +kernel
theorem dX9_sort_29 : decode cX9_sort 29 = .ok (.iconst 0, 1) := by decide +kernel
theorem dX9_sort_30 : decode cX9_sort 30 = .ok (.istore 4, 2) := by decide +kernel
theorem dX9_sort_32 : decode cX9_sort 32 = .ok (.iload 4, 2) := by decide +kernel
theorem dX9_sort_34 : decode cX9_sort 34 = .ok (.bipush 8, 2) := by decide +kernel
theorem dX9_sort_36 : decode cX9_sort 36 = .ok (.if_icmp .ge 71, 3) := by decide +kernel
theorem dX9_sort_39 : decode cX9_sort 39 = .ok (.iconst 0, 1) := by decide +kernel
theorem dX9_sort_40 : decode cX9_sort 40 = .ok (.istore 5, 2) := by decide +kernel
theorem dX9_sort_42 : decode cX9_sort 42 = .ok (.iload 5, 2) := by decide +kernel
theorem dX9_sort_44 : decode cX9_sort 44 = .ok (.aload_n 0, 1) := by decide +kernel
theorem dX9_sort_45 : decode cX9_sort 45 = .ok (.getfield 93, 3) := by decide +kernel
theorem dX9_sort_48 : decode cX9_sort 48 = .ok (.iload_n 1, 1) := by decide +kernel
theorem dX9_sort_49 : decode cX9_sort 49 = .ok (.iaload, 1) := by decide +kernel
theorem dX9_sort_50 : decode cX9_sort 50 = .ok (.if_icmp .ge 51, 3) := by decide +kernel
theorem dX9_sort_53 : decode cX9_sort 53 = .ok (.aload_n 0, 1) := by decide +kernel
theorem dX9_sort_54 : decode cX9_sort 54 = .ok (.aload_n 0, 1) := by decide +kernel
theorem dX9_sort_55 : decode cX9_sort 55 = .ok (.getfield 90, 3) := by decide +kernel
theorem dX9_sort_58 : decode cX9_sort 58 = .ok (.bipush 20, 2) := by decide +kernel
theorem dX9_sort_60 : decode cX9_sort 60 = .ok (.iload_n 1, 1) := by decide +kernel
theorem dX9_sort_61 : decode cX9_sort 61 = .ok (.imul, 1) := by decide +kernel
theorem dX9_sort_62 : decode cX9_sort 62 = .ok (.iload 5, 2) := by decide +kernel
theorem dX9_sort_64 : decode cX9_sort 64 = .ok (.iadd, 1) := by decide +kernel
theorem dX9_sort_65 : decode cX9_sort 65 = .ok (.iaload, 1) := by decide +kernel
theorem dX9_sort_66 : decode cX9_sort 66 = .ok (.invokevirtual 297, 3) := by decide +kernel
theorem dX9_sort_69 : decode cX9_sort 69 = .ok (.iload 4, 2) := by decide +kernel
theorem dX9_sort_71 : decode cX9_sort 71 = .ok (.if_icmp .ne 24, 3) := by decide +kernel
theorem dX9_sort_74 : decode cX9_sort 74 = .ok (.aload_n 0, 1) := by decide +kernel
theorem dX9_sort_75 : decode cX9_sort 75 = .ok (.getfield 171, 3) := by decide +kernel
theorem dX9_sort_78 : decode cX9_sort 78 = .ok (.iload_n 2, 1) := by decide +kernel
theorem dX9_sort_79 : decode cX9_sort 79 = .ok (.aload_n 0, 1) := by decide +kernel
theorem dX9_sort_80 : decode cX9_sort 80 = .ok (.getfield 90, 3) := by decide +kernel
theorem dX9_sort_83 : decode cX9_sort 83 = .ok (.bipush 20, 2) := by decide +kernel
theorem dX9_sort_85 : decode cX9_sort 85 = .ok (.iload_n 1, 1) := by decide +kernel
theorem dX9_sort_86 : decode cX9_sort 86 = .ok (.imul, 1) := by decide +kernel
theorem dX9_sort_87 : decode cX9_sort 87 = .ok (.iload 5, 2) := by decide +kernel
theorem dX9_sort_89 : decode cX9_sort 89 = .ok (.iadd, 1) := by decide +kernel
theorem dX9_sort_90 : decode cX9_sort 90 = .ok (.iaload, 1) := by decide +kernel
theorem dX9_sort_91 : decode cX9_sort 91 = .ok (.iastore, 1) := by decide +kernel
theorem dX9_sort_92 : decode cX9_sort 92 = .ok (.iinc 2 1, 3) := by decide +kernel
theorem dX9_sort_95 : decode cX9_sort 95 = .ok (.iinc 5 1, 3) := by decide +kernel
theorem dX9_sort_98 : decode cX9_sort 98 = .ok (.goto (-56), 3) := by decide +kernel
theorem dX9_sort_101 : decode cX9_sort 101 = .ok (.iinc 4 1, 3) := by decide +kernel
theorem dX9_sort_104 : decode cX9_sort 104 = .ok (.goto (-72), 3) := by decide +kernel
theorem dX9_sort_107 : decode cX9_sort 107 = .ok (.iconst 0, 1) := by decide +kernel
theorem dX9_sort_108 : decode cX9_sort 108 = .ok (.istore 4, 2) := by decide +kernel
theorem dX9_sort_110 : decode cX9_sort 110 = .ok (.iload 4, 2) := by decide +kernel
theorem dX9_sort_112 : decode cX9_sort 112 = .ok (.aload_n 0, 1) := by decide +kernel
theorem dX9_sort_113 : decode cX9_sort 113 = .ok (.getfield 93, 3) := by decide +kernel
theorem dX9_sort_116 : decode cX9_sort 116 = .ok (.iload_n 1, 1) := by decide +kernel
theorem dX9_sort_117 : decode cX9_sort 117 = .ok (.iaload, 1) := by decide +kernel
theorem dX9_sort_118 : decode cX9_sort 118 = .ok (.if_icmp .ge 58, 3) := by decide +kernel
theorem dX9_sort_121 : decode cX9_sort 121 = .ok (.iload_n 3, 1) := by decide +kernel
theorem dX9_sort_122 : decode cX9_sort 122 = .ok (.aload_n 0, 1) := by decide +kernel
theorem dX9_sort_123 : decode cX9_sort 123 = .ok (.getfield 171, 3) := by decide +kernel
theorem dX9_sort_126 : decode cX9_sort 126 = .ok (.iload 4, 2) := by decide +kernel
theorem dX9_sort_128 : decode cX9_sort 128 = .ok (.iaload, 1) := by decide +kernel
theorem dX9_sort_129 : decode cX9_sort 129 = .ok (.aload_n 0, 1) := by decide +kernel
theorem dX9_sort_130 : decode cX9_sort 130 = .ok (.getfield 90, 3) := by decide +kernel
theorem dX9_sort_133 : decode cX9_sort 133 = .ok (.bipush 20, 2) := by decide +kernel
theorem dX9_sort_135 : decode cX9_sort 135 = .ok (.iload_n 1, 1) := by decide +kernel
theorem dX9_sort_136 : decode cX9_sort 136 = .ok (.imul, 1) := by decide +kernel
theorem dX9_sort_137 : decode cX9_sort 137 = .ok (.iload 4, 2) := by decide +kernel
theorem dX9_sort_139 : decode cX9_sort 139 = .ok (.iadd, 1) := by decide +kernel
theorem dX9_sort_140 : decode cX9_sort 140 = .ok (.iaload, 1) := by decide +kernel
theorem dX9_sort_141 : decode cX9_sort 141 = .ok (.if_icmp .eq 7, 3) := by decide +kernel
theorem dX9_sort_144 : decode cX9_sort 144 = .ok (.iconst 1, 1) := by decide +kernel
theorem dX9_sort_145 : decode cX9_sort 145 = .ok (.goto 4, 3) := by decide +kernel
theorem dX9_sort_148 : decode cX9_sort 148 = .ok (.iconst 0, 1) := by decide +kernel
theorem dX9_sort_149 : decode cX9_sort 149 = .ok (.iadd, 1) := by decide +kernel
theorem dX9_sort_150 : decode cX9_sort 150 = .ok (.istore_n 3, 1) := by decide +kernel
theorem dX9_sort_151 : decode cX9_sort 151 = .ok (.aload_n 0, 1) := by decide +kernel
theorem dX9_sort_152 : decode cX9_sort 152 = .ok (.getfield 90, 3) := by decide +kernel
theorem dX9_sort_155 : decode cX9_sort 155 = .ok (.bipush 20, 2) := by decide +kernel
theorem dX9_sort_157 : decode cX9_sort 157 = .ok (.iload_n 1, 1) := by decide +kernel
theorem dX9_sort_158 : decode cX9_sort 158 = .ok (.imul, 1) := by decide +kernel
theorem dX9_sort_159 : decode cX9_sort 159 = .ok (.iload 4, 2) := by decide +kernel
theorem dX9_sort_161 : decode cX9_sort 161 = .ok (.iadd, 1) := by decide +kernel
theorem dX9_sort_162 : decode cX9_sort 162 = .ok (.aload_n 0, 1) := by decide +kernel
theorem dX9_sort_163 : decode cX9_sort 163 = .ok (.getfield 171, 3) := by decide +kernel
theorem dX9_sort_166 : decode cX9_sort 166 = .ok (.iload 4, 2) := by decide +kernel
theorem dX9_sort_168 : decode cX9_sort 168 = .ok (.iaload, 1) := by decide +kernel
theorem dX9_sort_169 : decode cX9_sort 169 = .ok (.iastore, 1) := by decide +kernel
theorem dX9_sort_170 : decode cX9_sort 170 = .ok (.iinc 4 1, 3) := by decide +kernel
theorem dX9_sort_173 : decode cX9_sort 173 = .ok (.goto (-63), 3) := by decide +kernel
theorem dX9_sort_176 : decode cX9_sort 176 = .ok (.iload_n 3, 1) := by decide +kernel
theorem dX9_sort_177 : decode cX9_sort 177 = .ok (.ireturn, 1) := by decide +kernel
theorem dX9_clock_0 : decode cX9_clock 0 = .ok (.aload_n 0, 1) := by decide +kernel
theorem dX9_clock_1 : decode cX9_clock 1 = .ok (.iconst 0, 1) := by decide +kernel
theorem dX9_clock_2 : decode cX9_clock 2 = .ok (.putfield 174, 3) := by decide +kernel
theorem dX9_clock_5 : decode cX9_clock 5 = .ok (.aload_n 0, 1) := by decide +kernel
theorem dX9_clock_6 : decode cX9_clock 6 = .ok (.getfield 187, 3) := by decide +kernel
theorem dX9_clock_9 : decode cX9_clock 9 = .ok (.ireturn, 1) := by decide +kernel
theorem dX9_cash_0 : decode cX9_cash 0 = .ok (.aload_n 0, 1) := by decide +kernel
theorem dX9_cash_1 : decode cX9_cash 1 = .ok (.iconst 0, 1) := by decide +kernel
theorem dX9_cash_2 : decode cX9_cash 2 = .ok (.putfield 174, 3) := by decide +kernel
theorem dX9_cash_5 : decode cX9_cash 5 = .ok (.aload_n 0, 1) := by decide +kernel
theorem dX9_cash_6 : decode cX9_cash 6 = .ok (.getfield 7, 3) := by decide +kernel
theorem dX9_cash_9 : decode cX9_cash 9 = .ok (.ireturn, 1) := by decide +kernel
theorem dX9_debt_0 : decode cX9_debt 0 = .ok (.aload_n 0, 1) := by decide +kernel
theorem dX9_debt_1 : decode cX9_debt 1 = .ok (.iconst 0, 1) := by decide +kernel
theorem dX9_debt_2 : decode cX9_debt 2 = .ok (.putfield 174, 3) := by decide +kernel
theorem dX9_debt_5 : decode cX9_debt 5 = .ok (.aload_n 0, 1) := by decide +kernel
theorem dX9_debt_6 : decode cX9_debt 6 = .ok (.getfield 230, 3) := by decide +kernel
theorem dX9_debt_9 : decode cX9_debt 9 = .ok (.ireturn, 1) := by decide +kernel
theorem dX9_broken_0 : decode cX9_broken 0 = .ok (.aload_n 0, 1) := by decide +kernel
theorem dX9_broken_1 : decode cX9_broken 1 = .ok (.iconst 0, 1) := by decide +kernel
theorem dX9_broken_2 : decode cX9_broken 2 = .ok (.putfield 174, 3) := by decide +kernel
theorem dX9_broken_5 : decode cX9_broken 5 = .ok (.aload_n 0, 1) := by decide +kernel
theorem dX9_broken_6 : decode cX9_broken 6 = .ok (.getfield 288, 3) := by decide +kernel
theorem dX9_broken_9 : decode cX9_broken 9 = .ok (.ireturn, 1) := by decide +kernel
theorem dX9_freeTracks_0 : decode cX9_freeTracks 0 = .ok (.aload_n 0, 1) := by decide +kernel
theorem dX9_freeTracks_1 : decode cX9_freeTracks 1 = .ok (.iload_n 1, 1) := by decide +kernel
theorem dX9_freeTracks_2 : decode cX9_freeTracks 2 = .ok (.invokestatic 193, 3) := by decide +kernel
theorem dX9_freeTracks_5 : decode cX9_freeTracks 5 = .ok (.ifCond .eq 7, 3) := by decide +kernel
theorem dX9_freeTracks_8 : decode cX9_freeTracks 8 = .ok (.iconst 0, 1) := by decide +kernel
theorem dX9_freeTracks_9 : decode cX9_freeTracks 9 = .ok (.goto 4, 3) := by decide +kernel
theorem dX9_freeTracks_12 : decode cX9_freeTracks 12 = .ok (.iconst 1, 1) := by decide +kernel
theorem dX9_freeTracks_13 : decode cX9_freeTracks 13 = .ok (.putfield 174, 3) := by decide +kernel
theorem dX9_freeTracks_16 : decode cX9_freeTracks 16 = .ok (.aload_n 0, 1) := by decide +kernel
theorem dX9_freeTracks_17 : decode cX9_freeTracks 17 = .ok (.getfield 174, 3) := by decide +kernel
theorem dX9_freeTracks_20 : decode cX9_freeTracks 20 = .ok (.ifCond .le 7, 3) := by decide +kernel
theorem dX9_freeTracks_23 : decode cX9_freeTracks 23 = .ok (.iconst 0, 1) := by decide +kernel
theorem dX9_freeTracks_24 : decode cX9_freeTracks 24 = .ok (.goto 15, 3) := by decide +kernel
theorem dX9_freeTracks_27 : decode cX9_freeTracks 27 = .ok (.aload_n 0, 1) := by decide +kernel
theorem dX9_freeTracks_28 : decode cX9_freeTracks 28 = .ok (.getfield 13, 3) := by decide +kernel
theorem dX9_freeTracks_31 : decode cX9_freeTracks 31 = .ok (.iload_n 1, 1) := by decide +kernel
theorem dX9_freeTracks_32 : decode cX9_freeTracks 32 = .ok (.iaload, 1) := by decide +kernel
theorem dX9_freeTracks_33 : decode cX9_freeTracks 33 = .ok (.aload_n 0, 1) := by decide +kernel
theorem dX9_freeTracks_34 : decode cX9_freeTracks 34 = .ok (.iload_n 1, 1) := by decide +kernel
theorem dX9_freeTracks_35 : decode cX9_freeTracks 35 = .ok (.invokevirtual 197, 3) := by decide +kernel
theorem dX9_freeTracks_38 : decode cX9_freeTracks 38 = .ok (.isub, 1) := by decide +kernel
theorem dX9_freeTracks_39 : decode cX9_freeTracks 39 = .ok (.ireturn, 1) := by decide +kernel
theorem dX9_holder_0 : decode cX9_holder 0 = .ok (.aload_n 0, 1) := by decide +kernel
theorem dX9_holder_1 : decode cX9_holder 1 = .ok (.aload_n 0, 1) := by decide +kernel
theorem dX9_holder_2 : decode cX9_holder 2 = .ok (.iload_n 1, 1) := by decide +kernel
theorem dX9_holder_3 : decode cX9_holder 3 = .ok (.invokevirtual 201, 3) := by decide +kernel
theorem dX9_holder_6 : decode cX9_holder 6 = .ok (.ifCond .eq 7, 3) := by decide +kernel
theorem dX9_holder_9 : decode cX9_holder 9 = .ok (.iconst 0, 1) := by decide +kernel
theorem dX9_holder_10 : decode cX9_holder 10 = .ok (.goto 4, 3) := by decide +kernel
theorem dX9_holder_13 : decode cX9_holder 13 = .ok (.iconst 1, 1) := by decide +kernel
theorem dX9_holder_14 : decode cX9_holder 14 = .ok (.putfield 174, 3) := by decide +kernel
theorem dX9_holder_17 : decode cX9_holder 17 = .ok (.aload_n 0, 1) := by decide +kernel
theorem dX9_holder_18 : decode cX9_holder 18 = .ok (.getfield 174, 3) := by decide +kernel
theorem dX9_holder_21 : decode cX9_holder 21 = .ok (.ifCond .le 7, 3) := by decide +kernel
theorem dX9_holder_24 : decode cX9_holder 24 = .ok (.iconst 0, 1) := by decide +kernel
theorem dX9_holder_25 : decode cX9_holder 25 = .ok (.goto 9, 3) := by decide +kernel
theorem dX9_holder_28 : decode cX9_holder 28 = .ok (.aload_n 0, 1) := by decide +kernel
theorem dX9_holder_29 : decode cX9_holder 29 = .ok (.getfield 48, 3) := by decide +kernel
theorem dX9_holder_32 : decode cX9_holder 32 = .ok (.iload_n 1, 1) := by decide +kernel
theorem dX9_holder_33 : decode cX9_holder 33 = .ok (.iaload, 1) := by decide +kernel
theorem dX9_holder_34 : decode cX9_holder 34 = .ok (.ireturn, 1) := by decide +kernel
theorem dX9_holderByTrains_0 : decode cX9_holderByTrains 0 = .ok (.aload_n 0, 1) := by decide +kernel
theorem dX9_holderByTrains_1 : decode cX9_holderByTrains 1 = .ok (.iload_n 1, 1) := by decide +kernel
theorem dX9_holderByTrains_2 : decode cX9_holderByTrains 2 = .ok (.invokevirtual 300, 3) := by decide +kernel
theorem dX9_holderByTrains_5 : decode cX9_holderByTrains 5 = .ok (.ireturn, 1) := by decide +kernel
theorem dX9_block_0 : decode cX9_block 0 = .ok (.aload_n 0, 1) := by decide +kernel
theorem dX9_block_1 : decode cX9_block 1 = .ok (.aload_n 0, 1) := by decide +kernel
theorem dX9_block_2 : decode cX9_block 2 = .ok (.iload_n 1, 1) := by decide +kernel
theorem dX9_block_3 : decode cX9_block 3 = .ok (.invokevirtual 201, 3) := by decide +kernel
theorem dX9_block_6 : decode cX9_block 6 = .ok (.ifCond .eq 16, 3) := by decide +kernel
theorem dX9_block_9 : decode cX9_block 9 = .ok (.iload_n 2, 1) := by decide +kernel
theorem dX9_block_10 : decode cX9_block 10 = .ok (.iconst 0, 1) := by decide +kernel
theorem dX9_block_11 : decode cX9_block 11 = .ok (.iconst 2, 1) := by decide +kernel
theorem dX9_block_12 : decode cX9_block 12 = .ok (.invokestatic 177, 3) := by decide +kernel
theorem dX9_block_15 : decode cX9_block 15 = .ok (.ifCond .eq 7, 3) := by decide +kernel
theorem dX9_block_18 : decode cX9_block 18 = .ok (.iconst 0, 1) := by decide +kernel
theorem dX9_block_19 : decode cX9_block 19 = .ok (.goto 4, 3) := by decide +kernel
theorem dX9_block_22 : decode cX9_block 22 = .ok (.iconst 1, 1) := by decide +kernel
theorem dX9_block_23 : decode cX9_block 23 = .ok (.putfield 174, 3) := by decide +kernel
theorem dX9_block_26 : decode cX9_block 26 = .ok (.aload_n 0, 1) := by decide +kernel
theorem dX9_block_27 : decode cX9_block 27 = .ok (.getfield 174, 3) := by decide +kernel
theorem dX9_block_30 : decode cX9_block 30 = .ok (.ifCond .le 7, 3) := by decide +kernel
theorem dX9_block_33 : decode cX9_block 33 = .ok (.iconst 0, 1) := by decide +kernel
theorem dX9_block_34 : decode cX9_block 34 = .ok (.goto 51, 3) := by decide +kernel
theorem dX9_block_37 : decode cX9_block 37 = .ok (.iload_n 2, 1) := by decide +kernel
theorem dX9_block_38 : decode cX9_block 38 = .ok (.ifCond .ne 12, 3) := by decide +kernel
theorem dX9_block_41 : decode cX9_block 41 = .ok (.aload_n 0, 1) := by decide +kernel
theorem dX9_block_42 : decode cX9_block 42 = .ok (.getfield 26, 3) := by decide +kernel
theorem dX9_block_45 : decode cX9_block 45 = .ok (.iload_n 1, 1) := by decide +kernel
theorem dX9_block_46 : decode cX9_block 46 = .ok (.iaload, 1) := by decide +kernel
theorem dX9_block_47 : decode cX9_block 47 = .ok (.goto 38, 3) := by decide +kernel
theorem dX9_block_50 : decode cX9_block 50 = .ok (.iload_n 2, 1) := by decide +kernel
theorem dX9_block_51 : decode cX9_block 51 = .ok (.iconst 1, 1) := by decide +kernel
theorem dX9_block_52 : decode cX9_block 52 = .ok (.if_icmp .ne 19, 3) := by decide +kernel
theorem dX9_block_55 : decode cX9_block 55 = .ok (.aload_n 0, 1) := by decide +kernel
theorem dX9_block_56 : decode cX9_block 56 = .ok (.iload_n 1, 1) := by decide +kernel
theorem dX9_block_57 : decode cX9_block 57 = .ok (.invokevirtual 204, 3) := by decide +kernel
theorem dX9_block_60 : decode cX9_block 60 = .ok (.ifCond .eq 7, 3) := by decide +kernel
theorem dX9_block_63 : decode cX9_block 63 = .ok (.iconst 1, 1) := by decide +kernel
theorem dX9_block_64 : decode cX9_block 64 = .ok (.goto 21, 3) := by decide +kernel
theorem dX9_block_67 : decode cX9_block 67 = .ok (.iconst 0, 1) := by decide +kernel
theorem dX9_block_68 : decode cX9_block 68 = .ok (.goto 17, 3) := by decide +kernel
theorem dX9_block_71 : decode cX9_block 71 = .ok (.aload_n 0, 1) := by decide +kernel
theorem dX9_block_72 : decode cX9_block 72 = .ok (.getfield 39, 3) := by decide +kernel
theorem dX9_block_75 : decode cX9_block 75 = .ok (.iload_n 1, 1) := by decide +kernel
theorem dX9_block_76 : decode cX9_block 76 = .ok (.baload, 1) := by decide +kernel
theorem dX9_block_77 : decode cX9_block 77 = .ok (.ifCond .eq 7, 3) := by decide +kernel
theorem dX9_block_80 : decode cX9_block 80 = .ok (.iconst 1, 1) := by decide +kernel
theorem dX9_block_81 : decode cX9_block 81 = .ok (.goto 4, 3) := by decide +kernel
theorem dX9_block_84 : decode cX9_block 84 = .ok (.iconst 0, 1) := by decide +kernel
theorem dX9_block_85 : decode cX9_block 85 = .ok (.ireturn, 1) := by decide +kernel
theorem dX9_train_0 : decode cX9_train 0 = .ok (.aload_n 0, 1) := by decide +kernel
theorem dX9_train_1 : decode cX9_train 1 = .ok (.aload_n 0, 1) := by decide +kernel
theorem dX9_train_2 : decode cX9_train 2 = .ok (.iload_n 1, 1) := by decide +kernel
theorem dX9_train_3 : decode cX9_train 3 = .ok (.invokevirtual 237, 3) := by decide +kernel
theorem dX9_train_6 : decode cX9_train 6 = .ok (.ifCond .eq 17, 3) := by decide +kernel
theorem dX9_train_9 : decode cX9_train 9 = .ok (.iload_n 2, 1) := by decide +kernel
theorem dX9_train_10 : decode cX9_train 10 = .ok (.iconst 0, 1) := by decide +kernel
theorem dX9_train_11 : decode cX9_train 11 = .ok (.bipush 6, 2) := by decide +kernel
theorem dX9_train_13 : decode cX9_train 13 = .ok (.invokestatic 177, 3) := by decide +kernel
theorem dX9_train_16 : decode cX9_train 16 = .ok (.ifCond .eq 7, 3) := by decide +kernel
theorem dX9_train_19 : decode cX9_train 19 = .ok (.iconst 0, 1) := by decide +kernel
theorem dX9_train_20 : decode cX9_train 20 = .ok (.goto 4, 3) := by decide +kernel
theorem dX9_train_23 : decode cX9_train 23 = .ok (.iconst 1, 1) := by decide +kernel
theorem dX9_train_24 : decode cX9_train 24 = .ok (.putfield 174, 3) := by decide +kernel
theorem dX9_train_27 : decode cX9_train 27 = .ok (.aload_n 0, 1) := by decide +kernel
theorem dX9_train_28 : decode cX9_train 28 = .ok (.getfield 174, 3) := by decide +kernel
theorem dX9_train_31 : decode cX9_train 31 = .ok (.ifCond .le 5, 3) := by decide +kernel
theorem dX9_train_34 : decode cX9_train 34 = .ok (.iconst 0, 1) := by decide +kernel
theorem dX9_train_35 : decode cX9_train 35 = .ok (.ireturn, 1) := by decide +kernel
theorem dX9_train_36 : decode cX9_train 36 = .ok (.iload_n 2, 1) := by decide +kernel
theorem dX9_train_37 : decode cX9_train 37 = .ok (.tableswitch 101 0 5 #[39, 46, 67, 74, 80, 87], 39) := by decide +kernel
theorem dX9_train_76 : decode cX9_train 76 = .ok (.aload_n 0, 1) := by decide +kernel
theorem dX9_train_77 : decode cX9_train 77 = .ok (.getfield 105, 3) := by decide +kernel
theorem dX9_train_80 : decode cX9_train 80 = .ok (.iload_n 1, 1) := by decide +kernel
theorem dX9_train_81 : decode cX9_train 81 = .ok (.iaload, 1) := by decide +kernel
theorem dX9_train_82 : decode cX9_train 82 = .ok (.ireturn, 1) := by decide +kernel
theorem dX9_train_83 : decode cX9_train 83 = .ok (.aload_n 0, 1) := by decide +kernel
theorem dX9_train_84 : decode cX9_train 84 = .ok (.getfield 105, 3) := by decide +kernel
theorem dX9_train_87 : decode cX9_train 87 = .ok (.iload_n 1, 1) := by decide +kernel
theorem dX9_train_88 : decode cX9_train 88 = .ok (.iaload, 1) := by decide +kernel
theorem dX9_train_89 : decode cX9_train 89 = .ok (.iconst 3, 1) := by decide +kernel
theorem dX9_train_90 : decode cX9_train 90 = .ok (.if_icmp .ne 7, 3) := by decide +kernel
theorem dX9_train_93 : decode cX9_train 93 = .ok (.iconst (-1), 1) := by decide +kernel
theorem dX9_train_94 : decode cX9_train 94 = .ok (.goto 9, 3) := by decide +kernel
theorem dX9_train_97 : decode cX9_train 97 = .ok (.aload_n 0, 1) := by decide +kernel
theorem dX9_train_98 : decode cX9_train 98 = .ok (.getfield 108, 3) := by decide +kernel
theorem dX9_train_101 : decode cX9_train 101 = .ok (.iload_n 1, 1) := by decide +kernel
theorem dX9_train_102 : decode cX9_train 102 = .ok (.iaload, 1) := by decide +kernel
theorem dX9_train_103 : decode cX9_train 103 = .ok (.ireturn, 1) := by decide +kernel
theorem dX9_train_104 : decode cX9_train 104 = .ok (.aload_n 0, 1) := by decide +kernel
theorem dX9_train_105 : decode cX9_train 105 = .ok (.getfield 111, 3) := by decide +kernel
theorem dX9_train_108 : decode cX9_train 108 = .ok (.iload_n 1, 1) := by decide +kernel
theorem dX9_train_109 : decode cX9_train 109 = .ok (.iaload, 1) := by decide +kernel
theorem dX9_train_110 : decode cX9_train 110 = .ok (.ireturn, 1) := by decide +kernel
theorem dX9_train_111 : decode cX9_train 111 = .ok (.aload_n 0, 1) := by decide +kernel
theorem dX9_train_112 : decode cX9_train 112 = .ok (.iload_n 1, 1) := by decide +kernel
theorem dX9_train_113 : decode cX9_train 113 = .ok (.invokevirtual 256, 3) := by decide +kernel
theorem dX9_train_116 : decode cX9_train 116 = .ok (.ireturn, 1) := by decide +kernel
theorem dX9_train_117 : decode cX9_train 117 = .ok (.aload_n 0, 1) := by decide +kernel
theorem dX9_train_118 : decode cX9_train 118 = .ok (.getfield 120, 3) := by decide +kernel
theorem dX9_train_121 : decode cX9_train 121 = .ok (.iload_n 1, 1) := by decide +kernel
theorem dX9_train_122 : decode cX9_train 122 = .ok (.iaload, 1) := by decide +kernel
theorem dX9_train_123 : decode cX9_train 123 = .ok (.ireturn, 1) := by decide +kernel
theorem dX9_train_124 : decode cX9_train 124 = .ok (.aload_n 0, 1) := by decide +kernel
theorem dX9_train_125 : decode cX9_train 125 = .ok (.getfield 129, 3) := by decide +kernel
theorem dX9_train_128 : decode cX9_train 128 = .ok (.iload_n 1, 1) := by decide +kernel
theorem dX9_train_129 : decode cX9_train 129 = .ok (.iaload, 1) := by decide +kernel
theorem dX9_train_130 : decode cX9_train 130 = .ok (.aload_n 0, 1) := by decide +kernel
theorem dX9_train_131 : decode cX9_train 131 = .ok (.getfield 126, 3) := by decide +kernel
theorem dX9_train_134 : decode cX9_train 134 = .ok (.iload_n 1, 1) := by decide +kernel
theorem dX9_train_135 : decode cX9_train 135 = .ok (.iaload, 1) := by decide +kernel
theorem dX9_train_136 : decode cX9_train 136 = .ok (.isub, 1) := by decide +kernel
theorem dX9_train_137 : decode cX9_train 137 = .ok (.ireturn, 1) := by decide +kernel
theorem dX9_train_138 : decode cX9_train 138 = .ok (.aload_n 0, 1) := by decide +kernel
theorem dX9_train_139 : decode cX9_train 139 = .ok (.getfield 105, 3) := by decide +kernel
theorem dX9_train_142 : decode cX9_train 142 = .ok (.iload_n 1, 1) := by decide +kernel
theorem dX9_train_143 : decode cX9_train 143 = .ok (.iaload, 1) := by decide +kernel
theorem dX9_train_144 : decode cX9_train 144 = .ok (.iconst 2, 1) := by decide +kernel
theorem dX9_train_145 : decode cX9_train 145 = .ok (.if_icmp .ne 12, 3) := by decide +kernel
theorem dX9_train_148 : decode cX9_train 148 = .ok (.aload_n 0, 1) := by decide +kernel
theorem dX9_train_149 : decode cX9_train 149 = .ok (.getfield 114, 3) := by decide +kernel
theorem dX9_train_152 : decode cX9_train 152 = .ok (.iload_n 1, 1) := by decide +kernel
theorem dX9_train_153 : decode cX9_train 153 = .ok (.iaload, 1) := by decide +kernel
theorem dX9_train_154 : decode cX9_train 154 = .ok (.goto 4, 3) := by decide +kernel
theorem dX9_train_157 : decode cX9_train 157 = .ok (.iconst (-1), 1) := by decide +kernel
theorem dX9_train_158 : decode cX9_train 158 = .ok (.ireturn, 1) := by decide +kernel
theorem dX9_barred_0 : decode cX9_barred 0 = .ok (.aload_n 0, 1) := by decide +kernel
theorem dX9_barred_1 : decode cX9_barred 1 = .ok (.aload_n 0, 1) := by decide +kernel
theorem dX9_barred_2 : decode cX9_barred 2 = .ok (.iload_n 1, 1) := by decide +kernel
theorem dX9_barred_3 : decode cX9_barred 3 = .ok (.invokevirtual 237, 3) := by decide +kernel
theorem dX9_barred_6 : decode cX9_barred 6 = .ok (.ifCond .eq 7, 3) := by decide +kernel
theorem dX9_barred_9 : decode cX9_barred 9 = .ok (.iconst 0, 1) := by decide +kernel
theorem dX9_barred_10 : decode cX9_barred 10 = .ok (.goto 4, 3) := by decide +kernel
theorem dX9_barred_13 : decode cX9_barred 13 = .ok (.iconst 1, 1) := by decide +kernel
theorem dX9_barred_14 : decode cX9_barred 14 = .ok (.putfield 174, 3) := by decide +kernel
theorem dX9_barred_17 : decode cX9_barred 17 = .ok (.aload_n 0, 1) := by decide +kernel
theorem dX9_barred_18 : decode cX9_barred 18 = .ok (.getfield 174, 3) := by decide +kernel
theorem dX9_barred_21 : decode cX9_barred 21 = .ok (.ifCond .le 7, 3) := by decide +kernel
theorem dX9_barred_24 : decode cX9_barred 24 = .ok (.iconst 0, 1) := by decide +kernel
theorem dX9_barred_25 : decode cX9_barred 25 = .ok (.goto 23, 3) := by decide +kernel
theorem dX9_barred_28 : decode cX9_barred 28 = .ok (.aload_n 0, 1) := by decide +kernel
theorem dX9_barred_29 : decode cX9_barred 29 = .ok (.getfield 105, 3) := by decide +kernel
theorem dX9_barred_32 : decode cX9_barred 32 = .ok (.iload_n 1, 1) := by decide +kernel
theorem dX9_barred_33 : decode cX9_barred 33 = .ok (.iaload, 1) := by decide +kernel
theorem dX9_barred_34 : decode cX9_barred 34 = .ok (.iconst 1, 1) := by decide +kernel
theorem dX9_barred_35 : decode cX9_barred 35 = .ok (.if_icmp .eq 7, 3) := by decide +kernel
theorem dX9_barred_38 : decode cX9_barred 38 = .ok (.iconst (-1), 1) := by decide +kernel
theorem dX9_barred_39 : decode cX9_barred 39 = .ok (.goto 9, 3) := by decide +kernel
theorem dX9_barred_42 : decode cX9_barred 42 = .ok (.aload_n 0, 1) := by decide +kernel
theorem dX9_barred_43 : decode cX9_barred 43 = .ok (.iload_n 1, 1) := by decide +kernel
theorem dX9_barred_44 : decode cX9_barred 44 = .ok (.iconst 1, 1) := by decide +kernel
theorem dX9_barred_45 : decode cX9_barred 45 = .ok (.invokevirtual 278, 3) := by decide +kernel
theorem dX9_barred_48 : decode cX9_barred 48 = .ok (.ireturn, 1) := by decide +kernel
theorem dX9_duty_0 : decode cX9_duty 0 = .ok (.aload_n 0, 1) := by decide +kernel
theorem dX9_duty_1 : decode cX9_duty 1 = .ok (.aload_n 0, 1) := by decide +kernel
theorem dX9_duty_2 : decode cX9_duty 2 = .ok (.iload_n 1, 1) := by decide +kernel
theorem dX9_duty_3 : decode cX9_duty 3 = .ok (.invokevirtual 213, 3) := by decide +kernel
theorem dX9_duty_6 : decode cX9_duty 6 = .ok (.ifCond .eq 7, 3) := by decide +kernel
theorem dX9_duty_9 : decode cX9_duty 9 = .ok (.iconst 0, 1) := by decide +kernel
theorem dX9_duty_10 : decode cX9_duty 10 = .ok (.goto 4, 3) := by decide +kernel
theorem dX9_duty_13 : decode cX9_duty 13 = .ok (.iconst 1, 1) := by decide +kernel
theorem dX9_duty_14 : decode cX9_duty 14 = .ok (.putfield 174, 3) := by decide +kernel
theorem dX9_duty_17 : decode cX9_duty 17 = .ok (.aload_n 0, 1) := by decide +kernel
theorem dX9_duty_18 : decode cX9_duty 18 = .ok (.getfield 174, 3) := by decide +kernel
theorem dX9_duty_21 : decode cX9_duty 21 = .ok (.ifCond .le 7, 3) := by decide +kernel
theorem dX9_duty_24 : decode cX9_duty 24 = .ok (.iconst 0, 1) := by decide +kernel
theorem dX9_duty_25 : decode cX9_duty 25 = .ok (.goto 21, 3) := by decide +kernel
theorem dX9_duty_28 : decode cX9_duty 28 = .ok (.aload_n 0, 1) := by decide +kernel
theorem dX9_duty_29 : decode cX9_duty 29 = .ok (.iload_n 1, 1) := by decide +kernel
theorem dX9_duty_30 : decode cX9_duty 30 = .ok (.invokevirtual 216, 3) := by decide +kernel
theorem dX9_duty_33 : decode cX9_duty 33 = .ok (.ifCond .eq 7, 3) := by decide +kernel
theorem dX9_duty_36 : decode cX9_duty 36 = .ok (.iconst (-1), 1) := by decide +kernel
theorem dX9_duty_37 : decode cX9_duty 37 = .ok (.goto 9, 3) := by decide +kernel
theorem dX9_duty_40 : decode cX9_duty 40 = .ok (.aload_n 0, 1) := by decide +kernel
theorem dX9_duty_41 : decode cX9_duty 41 = .ok (.getfield 69, 3) := by decide +kernel
theorem dX9_duty_44 : decode cX9_duty 44 = .ok (.iload_n 1, 1) := by decide +kernel
theorem dX9_duty_45 : decode cX9_duty 45 = .ok (.iaload, 1) := by decide +kernel
theorem dX9_duty_46 : decode cX9_duty 46 = .ok (.ireturn, 1) := by decide +kernel
theorem dX9_carAt_0 : decode cX9_carAt 0 = .ok (.aload_n 0, 1) := by decide +kernel
theorem dX9_carAt_1 : decode cX9_carAt 1 = .ok (.aload_n 0, 1) := by decide +kernel
theorem dX9_carAt_2 : decode cX9_carAt 2 = .ok (.iload_n 1, 1) := by decide +kernel
theorem dX9_carAt_3 : decode cX9_carAt 3 = .ok (.invokevirtual 246, 3) := by decide +kernel
theorem dX9_carAt_6 : decode cX9_carAt 6 = .ok (.ifCond .eq 7, 3) := by decide +kernel
theorem dX9_carAt_9 : decode cX9_carAt 9 = .ok (.iconst 0, 1) := by decide +kernel
theorem dX9_carAt_10 : decode cX9_carAt 10 = .ok (.goto 4, 3) := by decide +kernel
theorem dX9_carAt_13 : decode cX9_carAt 13 = .ok (.iconst 1, 1) := by decide +kernel
theorem dX9_carAt_14 : decode cX9_carAt 14 = .ok (.putfield 174, 3) := by decide +kernel
theorem dX9_carAt_17 : decode cX9_carAt 17 = .ok (.aload_n 0, 1) := by decide +kernel
theorem dX9_carAt_18 : decode cX9_carAt 18 = .ok (.getfield 174, 3) := by decide +kernel
theorem dX9_carAt_21 : decode cX9_carAt 21 = .ok (.ifCond .le 7, 3) := by decide +kernel
theorem dX9_carAt_24 : decode cX9_carAt 24 = .ok (.iconst 0, 1) := by decide +kernel
theorem dX9_carAt_25 : decode cX9_carAt 25 = .ok (.goto 31, 3) := by decide +kernel
theorem dX9_carAt_28 : decode cX9_carAt 28 = .ok (.aload_n 0, 1) := by decide +kernel
theorem dX9_carAt_29 : decode cX9_carAt 29 = .ok (.getfield 84, 3) := by decide +kernel
theorem dX9_carAt_32 : decode cX9_carAt 32 = .ok (.iload_n 1, 1) := by decide +kernel
theorem dX9_carAt_33 : decode cX9_carAt 33 = .ok (.iaload, 1) := by decide +kernel
theorem dX9_carAt_34 : decode cX9_carAt 34 = .ok (.iconst (-1), 1) := by decide +kernel
theorem dX9_carAt_35 : decode cX9_carAt 35 = .ok (.if_icmp .eq 15, 3) := by decide +kernel
theorem dX9_carAt_38 : decode cX9_carAt 38 = .ok (.bipush 100, 2) := by decide +kernel
theorem dX9_carAt_40 : decode cX9_carAt 40 = .ok (.aload_n 0, 1) := by decide +kernel
theorem dX9_carAt_41 : decode cX9_carAt 41 = .ok (.getfield 84, 3) := by decide +kernel
theorem dX9_carAt_44 : decode cX9_carAt 44 = .ok (.iload_n 1, 1) := by decide +kernel
theorem dX9_carAt_45 : decode cX9_carAt 45 = .ok (.iaload, 1) := by decide +kernel
theorem dX9_carAt_46 : decode cX9_carAt 46 = .ok (.iadd, 1) := by decide +kernel
theorem dX9_carAt_47 : decode cX9_carAt 47 = .ok (.goto 9, 3) := by decide +kernel
theorem dX9_carAt_50 : decode cX9_carAt 50 = .ok (.aload_n 0, 1) := by decide +kernel
theorem dX9_carAt_51 : decode cX9_carAt 51 = .ok (.getfield 81, 3) := by decide +kernel
theorem dX9_carAt_54 : decode cX9_carAt 54 = .ok (.iload_n 1, 1) := by decide +kernel
theorem dX9_carAt_55 : decode cX9_carAt 55 = .ok (.iaload, 1) := by decide +kernel
theorem dX9_carAt_56 : decode cX9_carAt 56 = .ok (.ireturn, 1) := by decide +kernel
theorem dX9_carByPapers_0 : decode cX9_carByPapers 0 = .ok (.aload_n 0, 1) := by decide +kernel
theorem dX9_carByPapers_1 : decode cX9_carByPapers 1 = .ok (.iload_n 1, 1) := by decide +kernel
theorem dX9_carByPapers_2 : decode cX9_carByPapers 2 = .ok (.invokevirtual 303, 3) := by decide +kernel
theorem dX9_carByPapers_5 : decode cX9_carByPapers 5 = .ok (.ireturn, 1) := by decide +kernel
theorem dX9_billOf_0 : decode cX9_billOf 0 = .ok (.aload_n 0, 1) := by decide +kernel
theorem dX9_billOf_1 : decode cX9_billOf 1 = .ok (.aload_n 0, 1) := by decide +kernel
theorem dX9_billOf_2 : decode cX9_billOf 2 = .ok (.iload_n 1, 1) := by decide +kernel
theorem dX9_billOf_3 : decode cX9_billOf 3 = .ok (.invokevirtual 246, 3) := by decide +kernel
theorem dX9_billOf_6 : decode cX9_billOf 6 = .ok (.ifCond .eq 7, 3) := by decide +kernel
theorem dX9_billOf_9 : decode cX9_billOf 9 = .ok (.iconst 0, 1) := by decide +kernel
theorem dX9_billOf_10 : decode cX9_billOf 10 = .ok (.goto 4, 3) := by decide +kernel
theorem dX9_billOf_13 : decode cX9_billOf 13 = .ok (.iconst 1, 1) := by decide +kernel
theorem dX9_billOf_14 : decode cX9_billOf 14 = .ok (.putfield 174, 3) := by decide +kernel
theorem dX9_billOf_17 : decode cX9_billOf 17 = .ok (.aload_n 0, 1) := by decide +kernel
theorem dX9_billOf_18 : decode cX9_billOf 18 = .ok (.getfield 174, 3) := by decide +kernel
theorem dX9_billOf_21 : decode cX9_billOf 21 = .ok (.ifCond .le 7, 3) := by decide +kernel
theorem dX9_billOf_24 : decode cX9_billOf 24 = .ok (.iconst 0, 1) := by decide +kernel
theorem dX9_billOf_25 : decode cX9_billOf 25 = .ok (.goto 9, 3) := by decide +kernel
theorem dX9_billOf_28 : decode cX9_billOf 28 = .ok (.aload_n 0, 1) := by decide +kernel
theorem dX9_billOf_29 : decode cX9_billOf 29 = .ok (.getfield 87, 3) := by decide +kernel
theorem dX9_billOf_32 : decode cX9_billOf 32 = .ok (.iload_n 1, 1) := by decide +kernel
theorem dX9_billOf_33 : decode cX9_billOf 33 = .ok (.iaload, 1) := by decide +kernel
theorem dX9_billOf_34 : decode cX9_billOf 34 = .ok (.ireturn, 1) := by decide +kernel
theorem dX9_paper_0 : decode cX9_paper 0 = .ok (.aload_n 0, 1) := by decide +kernel
theorem dX9_paper_1 : decode cX9_paper 1 = .ok (.aload_n 0, 1) := by decide +kernel
theorem dX9_paper_2 : decode cX9_paper 2 = .ok (.iload_n 1, 1) := by decide +kernel
theorem dX9_paper_3 : decode cX9_paper 3 = .ok (.invokevirtual 246, 3) := by decide +kernel
theorem dX9_paper_6 : decode cX9_paper 6 = .ok (.ifCond .eq 11, 3) := by decide +kernel
theorem dX9_paper_9 : decode cX9_paper 9 = .ok (.iload_n 2, 1) := by decide +kernel
theorem dX9_paper_10 : decode cX9_paper 10 = .ok (.ifCond .lt 7, 3) := by decide +kernel
theorem dX9_paper_13 : decode cX9_paper 13 = .ok (.iconst 0, 1) := by decide +kernel
theorem dX9_paper_14 : decode cX9_paper 14 = .ok (.goto 4, 3) := by decide +kernel
theorem dX9_paper_17 : decode cX9_paper 17 = .ok (.iconst 1, 1) := by decide +kernel
theorem dX9_paper_18 : decode cX9_paper 18 = .ok (.putfield 174, 3) := by decide +kernel
theorem dX9_paper_21 : decode cX9_paper 21 = .ok (.aload_n 0, 1) := by decide +kernel
theorem dX9_paper_22 : decode cX9_paper 22 = .ok (.getfield 174, 3) := by decide +kernel
theorem dX9_paper_25 : decode cX9_paper 25 = .ok (.ifCond .le 5, 3) := by decide +kernel
theorem dX9_paper_28 : decode cX9_paper 28 = .ok (.iconst 0, 1) := by decide +kernel
theorem dX9_paper_29 : decode cX9_paper 29 = .ok (.ireturn, 1) := by decide +kernel
theorem dX9_paper_30 : decode cX9_paper 30 = .ok (.iconst 0, 1) := by decide +kernel
theorem dX9_paper_31 : decode cX9_paper 31 = .ok (.istore_n 3, 1) := by decide +kernel
theorem dX9_paper_32 : decode cX9_paper 32 = .ok (.iconst 0, 1) := by decide +kernel
theorem dX9_paper_33 : decode cX9_paper 33 = .ok (.istore 4, 2) := by decide +kernel
theorem dX9_paper_35 : decode cX9_paper 35 = .ok (.iload 4, 2) := by decide +kernel
theorem dX9_paper_37 : decode cX9_paper 37 = .ok (.aload_n 0, 1) := by decide +kernel
theorem dX9_paper_38 : decode cX9_paper 38 = .ok (.getfield 190, 3) := by decide +kernel
theorem dX9_paper_41 : decode cX9_paper 41 = .ok (.if_icmp .ge 36, 3) := by decide +kernel
theorem dX9_paper_44 : decode cX9_paper 44 = .ok (.aload_n 0, 1) := by decide +kernel
theorem dX9_paper_45 : decode cX9_paper 45 = .ok (.getfield 162, 3) := by decide +kernel
theorem dX9_paper_48 : decode cX9_paper 48 = .ok (.iload 4, 2) := by decide +kernel
theorem dX9_paper_50 : decode cX9_paper 50 = .ok (.iaload, 1) := by decide +kernel
theorem dX9_paper_51 : decode cX9_paper 51 = .ok (.iload_n 1, 1) := by decide +kernel
theorem dX9_paper_52 : decode cX9_paper 52 = .ok (.if_icmp .ne 19, 3) := by decide +kernel
theorem dX9_paper_55 : decode cX9_paper 55 = .ok (.iload_n 3, 1) := by decide +kernel
theorem dX9_paper_56 : decode cX9_paper 56 = .ok (.iload_n 2, 1) := by decide +kernel
theorem dX9_paper_57 : decode cX9_paper 57 = .ok (.if_icmp .ne 11, 3) := by decide +kernel
theorem dX9_paper_60 : decode cX9_paper 60 = .ok (.aload_n 0, 1) := by decide +kernel
theorem dX9_paper_61 : decode cX9_paper 61 = .ok (.getfield 165, 3) := by decide +kernel
theorem dX9_paper_64 : decode cX9_paper 64 = .ok (.iload 4, 2) := by decide +kernel
theorem dX9_paper_66 : decode cX9_paper 66 = .ok (.iaload, 1) := by decide +kernel
theorem dX9_paper_67 : decode cX9_paper 67 = .ok (.ireturn, 1) := by decide +kernel
theorem dX9_paper_68 : decode cX9_paper 68 = .ok (.iinc 3 1, 3) := by decide +kernel
theorem dX9_paper_71 : decode cX9_paper 71 = .ok (.iinc 4 1, 3) := by decide +kernel
theorem dX9_paper_74 : decode cX9_paper 74 = .ok (.goto (-39), 3) := by decide +kernel
theorem dX9_paper_77 : decode cX9_paper 77 = .ok (.iconst (-1), 1) := by decide +kernel
theorem dX9_paper_78 : decode cX9_paper 78 = .ok (.ireturn, 1) := by decide +kernel
theorem dX9_yardAt_0 : decode cX9_yardAt 0 = .ok (.aload_n 0, 1) := by decide +kernel
theorem dX9_yardAt_1 : decode cX9_yardAt 1 = .ok (.iload_n 1, 1) := by decide +kernel
theorem dX9_yardAt_2 : decode cX9_yardAt 2 = .ok (.invokestatic 193, 3) := by decide +kernel
theorem dX9_yardAt_5 : decode cX9_yardAt 5 = .ok (.ifCond .eq 11, 3) := by decide +kernel
theorem dX9_yardAt_8 : decode cX9_yardAt 8 = .ok (.iload_n 2, 1) := by decide +kernel
theorem dX9_yardAt_9 : decode cX9_yardAt 9 = .ok (.ifCond .lt 7, 3) := by decide +kernel
theorem dX9_yardAt_12 : decode cX9_yardAt 12 = .ok (.iconst 0, 1) := by decide +kernel
theorem dX9_yardAt_13 : decode cX9_yardAt 13 = .ok (.goto 4, 3) := by decide +kernel
theorem dX9_yardAt_16 : decode cX9_yardAt 16 = .ok (.iconst 1, 1) := by decide +kernel
theorem dX9_yardAt_17 : decode cX9_yardAt 17 = .ok (.putfield 174, 3) := by decide +kernel
theorem dX9_yardAt_20 : decode cX9_yardAt 20 = .ok (.aload_n 0, 1) := by decide +kernel
theorem dX9_yardAt_21 : decode cX9_yardAt 21 = .ok (.getfield 174, 3) := by decide +kernel
theorem dX9_yardAt_24 : decode cX9_yardAt 24 = .ok (.ifCond .le 7, 3) := by decide +kernel
theorem dX9_yardAt_27 : decode cX9_yardAt 27 = .ok (.iconst 0, 1) := by decide +kernel
theorem dX9_yardAt_28 : decode cX9_yardAt 28 = .ok (.goto 28, 3) := by decide +kernel
theorem dX9_yardAt_31 : decode cX9_yardAt 31 = .ok (.iload_n 2, 1) := by decide +kernel
theorem dX9_yardAt_32 : decode cX9_yardAt 32 = .ok (.aload_n 0, 1) := by decide +kernel
theorem dX9_yardAt_33 : decode cX9_yardAt 33 = .ok (.getfield 93, 3) := by decide +kernel
theorem dX9_yardAt_36 : decode cX9_yardAt 36 = .ok (.iload_n 1, 1) := by decide +kernel
theorem dX9_yardAt_37 : decode cX9_yardAt 37 = .ok (.iaload, 1) := by decide +kernel
theorem dX9_yardAt_38 : decode cX9_yardAt 38 = .ok (.if_icmp .ge 17, 3) := by decide +kernel
theorem dX9_yardAt_41 : decode cX9_yardAt 41 = .ok (.aload_n 0, 1) := by decide +kernel
theorem dX9_yardAt_42 : decode cX9_yardAt 42 = .ok (.getfield 90, 3) := by decide +kernel
theorem dX9_yardAt_45 : decode cX9_yardAt 45 = .ok (.bipush 20, 2) := by decide +kernel
theorem dX9_yardAt_47 : decode cX9_yardAt 47 = .ok (.iload_n 1, 1) := by decide +kernel
theorem dX9_yardAt_48 : decode cX9_yardAt 48 = .ok (.imul, 1) := by decide +kernel
theorem dX9_yardAt_49 : decode cX9_yardAt 49 = .ok (.iload_n 2, 1) := by decide +kernel
theorem dX9_yardAt_50 : decode cX9_yardAt 50 = .ok (.iadd, 1) := by decide +kernel
theorem dX9_yardAt_51 : decode cX9_yardAt 51 = .ok (.iaload, 1) := by decide +kernel
theorem dX9_yardAt_52 : decode cX9_yardAt 52 = .ok (.goto 4, 3) := by decide +kernel
theorem dX9_yardAt_55 : decode cX9_yardAt 55 = .ok (.iconst (-1), 1) := by decide +kernel
theorem dX9_yardAt_56 : decode cX9_yardAt 56 = .ok (.ireturn, 1) := by decide +kernel
theorem dX9_homeward_0 : decode cX9_homeward 0 = .ok (.aload_n 0, 1) := by decide +kernel
theorem dX9_homeward_1 : decode cX9_homeward 1 = .ok (.aload_n 0, 1) := by decide +kernel
theorem dX9_homeward_2 : decode cX9_homeward 2 = .ok (.iload_n 1, 1) := by decide +kernel
theorem dX9_homeward_3 : decode cX9_homeward 3 = .ok (.invokevirtual 246, 3) := by decide +kernel
theorem dX9_homeward_6 : decode cX9_homeward 6 = .ok (.ifCond .eq 7, 3) := by decide +kernel
theorem dX9_homeward_9 : decode cX9_homeward 9 = .ok (.iconst 0, 1) := by decide +kernel
theorem dX9_homeward_10 : decode cX9_homeward 10 = .ok (.goto 4, 3) := by decide +kernel
theorem dX9_homeward_13 : decode cX9_homeward 13 = .ok (.iconst 1, 1) := by decide +kernel
theorem dX9_homeward_14 : decode cX9_homeward 14 = .ok (.putfield 174, 3) := by decide +kernel
theorem dX9_homeward_17 : decode cX9_homeward 17 = .ok (.aload_n 0, 1) := by decide +kernel
theorem dX9_homeward_18 : decode cX9_homeward 18 = .ok (.getfield 174, 3) := by decide +kernel
theorem dX9_homeward_21 : decode cX9_homeward 21 = .ok (.ifCond .le 5, 3) := by decide +kernel
theorem dX9_homeward_24 : decode cX9_homeward 24 = .ok (.iconst 0, 1) := by decide +kernel
theorem dX9_homeward_25 : decode cX9_homeward 25 = .ok (.ireturn, 1) := by decide +kernel
theorem dX9_homeward_26 : decode cX9_homeward 26 = .ok (.aload_n 0, 1) := by decide +kernel
theorem dX9_homeward_27 : decode cX9_homeward 27 = .ok (.getfield 81, 3) := by decide +kernel
theorem dX9_homeward_30 : decode cX9_homeward 30 = .ok (.iload_n 1, 1) := by decide +kernel
theorem dX9_homeward_31 : decode cX9_homeward 31 = .ok (.iaload, 1) := by decide +kernel
theorem dX9_homeward_32 : decode cX9_homeward 32 = .ok (.istore_n 2, 1) := by decide +kernel
theorem dX9_homeward_33 : decode cX9_homeward 33 = .ok (.aload_n 0, 1) := by decide +kernel
theorem dX9_homeward_34 : decode cX9_homeward 34 = .ok (.getfield 84, 3) := by decide +kernel
theorem dX9_homeward_37 : decode cX9_homeward 37 = .ok (.iload_n 1, 1) := by decide +kernel
theorem dX9_homeward_38 : decode cX9_homeward 38 = .ok (.iaload, 1) := by decide +kernel
theorem dX9_homeward_39 : decode cX9_homeward 39 = .ok (.iconst (-1), 1) := by decide +kernel
theorem dX9_homeward_40 : decode cX9_homeward 40 = .ok (.if_icmp .ne 13, 3) := by decide +kernel
theorem dX9_homeward_43 : decode cX9_homeward 43 = .ok (.iload_n 2, 1) := by decide +kernel
theorem dX9_homeward_44 : decode cX9_homeward 44 = .ok (.aload_n 0, 1) := by decide +kernel
theorem dX9_homeward_45 : decode cX9_homeward 45 = .ok (.getfield 78, 3) := by decide +kernel
theorem dX9_homeward_48 : decode cX9_homeward 48 = .ok (.iload_n 1, 1) := by decide +kernel
theorem dX9_homeward_49 : decode cX9_homeward 49 = .ok (.iaload, 1) := by decide +kernel
theorem dX9_homeward_50 : decode cX9_homeward 50 = .ok (.if_icmp .ne 5, 3) := by decide +kernel
theorem dX9_homeward_53 : decode cX9_homeward 53 = .ok (.iconst (-1), 1) := by decide +kernel
theorem dX9_homeward_54 : decode cX9_homeward 54 = .ok (.ireturn, 1) := by decide +kernel
theorem dX9_homeward_55 : decode cX9_homeward 55 = .ok (.iconst 0, 1) := by decide +kernel
theorem dX9_homeward_56 : decode cX9_homeward 56 = .ok (.istore_n 3, 1) := by decide +kernel
theorem dX9_homeward_57 : decode cX9_homeward 57 = .ok (.iload_n 3, 1) := by decide +kernel
theorem dX9_homeward_58 : decode cX9_homeward 58 = .ok (.bipush 8, 2) := by decide +kernel
theorem dX9_homeward_60 : decode cX9_homeward 60 = .ok (.if_icmp .ge 32, 3) := by decide +kernel
theorem dX9_homeward_63 : decode cX9_homeward 63 = .ok (.aload_n 0, 1) := by decide +kernel
theorem dX9_homeward_64 : decode cX9_homeward 64 = .ok (.getfield 168, 3) := by decide +kernel
theorem dX9_homeward_67 : decode cX9_homeward 67 = .ok (.iload_n 3, 1) := by decide +kernel
theorem dX9_homeward_68 : decode cX9_homeward 68 = .ok (.iload_n 3, 1) := by decide +kernel
theorem dX9_homeward_69 : decode cX9_homeward 69 = .ok (.aload_n 0, 1) := by decide +kernel
theorem dX9_homeward_70 : decode cX9_homeward 70 = .ok (.getfield 78, 3) := by decide +kernel
theorem dX9_homeward_73 : decode cX9_homeward 73 = .ok (.iload_n 1, 1) := by decide +kernel
theorem dX9_homeward_74 : decode cX9_homeward 74 = .ok (.iaload, 1) := by decide +kernel
theorem dX9_homeward_75 : decode cX9_homeward 75 = .ok (.if_icmp .ne 7, 3) := by decide +kernel
theorem dX9_homeward_78 : decode cX9_homeward 78 = .ok (.iconst 0, 1) := by decide +kernel
theorem dX9_homeward_79 : decode cX9_homeward 79 = .ok (.goto 6, 3) := by decide +kernel
theorem dX9_homeward_82 : decode cX9_homeward 82 = .ok (.ldc_w 306, 3) := by decide +kernel
theorem dX9_homeward_85 : decode cX9_homeward 85 = .ok (.iastore, 1) := by decide +kernel
theorem dX9_homeward_86 : decode cX9_homeward 86 = .ok (.iinc 3 1, 3) := by decide +kernel
theorem dX9_homeward_89 : decode cX9_homeward 89 = .ok (.goto (-32), 3) := by decide +kernel
theorem dX9_homeward_92 : decode cX9_homeward 92 = .ok (.iconst 0, 1) := by decide +kernel
theorem dX9_homeward_93 : decode cX9_homeward 93 = .ok (.istore_n 3, 1) := by decide +kernel
theorem dX9_homeward_94 : decode cX9_homeward 94 = .ok (.iload_n 3, 1) := by decide +kernel
theorem dX9_homeward_95 : decode cX9_homeward 95 = .ok (.bipush 8, 2) := by decide +kernel
theorem dX9_homeward_97 : decode cX9_homeward 97 = .ok (.if_icmp .ge 185, 3) := by decide +kernel
theorem dX9_homeward_100 : decode cX9_homeward 100 = .ok (.iconst 0, 1) := by decide +kernel
theorem dX9_homeward_101 : decode cX9_homeward 101 = .ok (.istore 4, 2) := by decide +kernel
theorem dX9_homeward_103 : decode cX9_homeward 103 = .ok (.iload 4, 2) := by decide +kernel
theorem dX9_homeward_105 : decode cX9_homeward 105 = .ok (.aload_n 0, 1) := by decide +kernel
theorem dX9_homeward_106 : decode cX9_homeward 106 = .ok (.getfield 181, 3) := by decide +kernel
theorem dX9_homeward_109 : decode cX9_homeward 109 = .ok (.if_icmp .ge 167, 3) := by decide +kernel
theorem dX9_homeward_112 : decode cX9_homeward 112 = .ok (.aload_n 0, 1) := by decide +kernel
theorem dX9_homeward_113 : decode cX9_homeward 113 = .ok (.getfield 48, 3) := by decide +kernel
theorem dX9_homeward_116 : decode cX9_homeward 116 = .ok (.iload 4, 2) := by decide +kernel
theorem dX9_homeward_118 : decode cX9_homeward 118 = .ok (.iaload, 1) := by decide +kernel
theorem dX9_homeward_119 : decode cX9_homeward 119 = .ok (.iconst (-1), 1) := by decide +kernel
theorem dX9_homeward_120 : decode cX9_homeward 120 = .ok (.if_icmp .ne 150, 3) := by decide +kernel
theorem dX9_homeward_123 : decode cX9_homeward 123 = .ok (.aload_n 0, 1) := by decide +kernel
theorem dX9_homeward_124 : decode cX9_homeward 124 = .ok (.iload 4, 2) := by decide +kernel
theorem dX9_homeward_126 : decode cX9_homeward 126 = .ok (.invokevirtual 204, 3) := by decide +kernel
theorem dX9_homeward_129 : decode cX9_homeward 129 = .ok (.ifCond .ne 141, 3) := by decide +kernel
theorem dX9_homeward_132 : decode cX9_homeward 132 = .ok (.aload_n 0, 1) := by decide +kernel
theorem dX9_homeward_133 : decode cX9_homeward 133 = .ok (.getfield 17, 3) := by decide +kernel
theorem dX9_homeward_136 : decode cX9_homeward 136 = .ok (.iconst 2, 1) := by decide +kernel
theorem dX9_homeward_137 : decode cX9_homeward 137 = .ok (.iload 4, 2) := by decide +kernel
theorem dX9_homeward_139 : decode cX9_homeward 139 = .ok (.imul, 1) := by decide +kernel
theorem dX9_homeward_140 : decode cX9_homeward 140 = .ok (.iaload, 1) := by decide +kernel
theorem dX9_homeward_141 : decode cX9_homeward 141 = .ok (.istore 5, 2) := by decide +kernel
theorem dX9_homeward_143 : decode cX9_homeward 143 = .ok (.aload_n 0, 1) := by decide +kernel
theorem dX9_homeward_144 : decode cX9_homeward 144 = .ok (.getfield 17, 3) := by decide +kernel
theorem dX9_homeward_147 : decode cX9_homeward 147 = .ok (.iconst 2, 1) := by decide +kernel
theorem dX9_homeward_148 : decode cX9_homeward 148 = .ok (.iload 4, 2) := by decide +kernel
theorem dX9_homeward_150 : decode cX9_homeward 150 = .ok (.imul, 1) := by decide +kernel
theorem dX9_homeward_151 : decode cX9_homeward 151 = .ok (.iconst 1, 1) := by decide +kernel
theorem dX9_homeward_152 : decode cX9_homeward 152 = .ok (.iadd, 1) := by decide +kernel
theorem dX9_homeward_153 : decode cX9_homeward 153 = .ok (.iaload, 1) := by decide +kernel
theorem dX9_homeward_154 : decode cX9_homeward 154 = .ok (.istore 6, 2) := by decide +kernel
theorem dX9_homeward_156 : decode cX9_homeward 156 = .ok (.aload_n 0, 1) := by decide +kernel
theorem dX9_homeward_157 : decode cX9_homeward 157 = .ok (.getfield 168, 3) := by decide +kernel
theorem dX9_homeward_160 : decode cX9_homeward 160 = .ok (.iload 5, 2) := by decide +kernel
theorem dX9_homeward_162 : decode cX9_homeward 162 = .ok (.aload_n 0, 1) := by decide +kernel
theorem dX9_homeward_163 : decode cX9_homeward 163 = .ok (.getfield 168, 3) := by decide +kernel
theorem dX9_homeward_166 : decode cX9_homeward 166 = .ok (.iload 6, 2) := by decide +kernel
theorem dX9_homeward_168 : decode cX9_homeward 168 = .ok (.iaload, 1) := by decide +kernel
theorem dX9_homeward_169 : decode cX9_homeward 169 = .ok (.aload_n 0, 1) := by decide +kernel
theorem dX9_homeward_170 : decode cX9_homeward 170 = .ok (.getfield 20, 3) := by decide +kernel
theorem dX9_homeward_173 : decode cX9_homeward 173 = .ok (.iload 4, 2) := by decide +kernel
theorem dX9_homeward_175 : decode cX9_homeward 175 = .ok (.iaload, 1) := by decide +kernel
theorem dX9_homeward_176 : decode cX9_homeward 176 = .ok (.iadd, 1) := by decide +kernel
theorem dX9_homeward_177 : decode cX9_homeward 177 = .ok (.aload_n 0, 1) := by decide +kernel
theorem dX9_homeward_178 : decode cX9_homeward 178 = .ok (.getfield 168, 3) := by decide +kernel
theorem dX9_homeward_181 : decode cX9_homeward 181 = .ok (.iload 5, 2) := by decide +kernel
theorem dX9_homeward_183 : decode cX9_homeward 183 = .ok (.iaload, 1) := by decide +kernel
theorem dX9_homeward_184 : decode cX9_homeward 184 = .ok (.if_icmp .ge 21, 3) := by decide +kernel
theorem dX9_homeward_187 : decode cX9_homeward 187 = .ok (.aload_n 0, 1) := by decide +kernel
theorem dX9_homeward_188 : decode cX9_homeward 188 = .ok (.getfield 168, 3) := by decide +kernel
theorem dX9_homeward_191 : decode cX9_homeward 191 = .ok (.iload 6, 2) := by decide +kernel
theorem dX9_homeward_193 : decode cX9_homeward 193 = .ok (.iaload, 1) := by decide +kernel
theorem dX9_homeward_194 : decode cX9_homeward 194 = .ok (.aload_n 0, 1) := by decide +kernel
theorem dX9_homeward_195 : decode cX9_homeward 195 = .ok (.getfield 20, 3) := by decide +kernel
theorem dX9_homeward_198 : decode cX9_homeward 198 = .ok (.iload 4, 2) := by decide +kernel
theorem dX9_homeward_200 : decode cX9_homeward 200 = .ok (.iaload, 1) := by decide +kernel
theorem dX9_homeward_201 : decode cX9_homeward 201 = .ok (.iadd, 1) := by decide +kernel
theorem dX9_homeward_202 : decode cX9_homeward 202 = .ok (.goto 10, 3) := by decide +kernel
theorem dX9_homeward_205 : decode cX9_homeward 205 = .ok (.aload_n 0, 1) := by decide +kernel
theorem dX9_homeward_206 : decode cX9_homeward 206 = .ok (.getfield 168, 3) := by decide +kernel
theorem dX9_homeward_209 : decode cX9_homeward 209 = .ok (.iload 5, 2) := by decide +kernel
theorem dX9_homeward_211 : decode cX9_homeward 211 = .ok (.iaload, 1) := by decide +kernel
theorem dX9_homeward_212 : decode cX9_homeward 212 = .ok (.iastore, 1) := by decide +kernel
theorem dX9_homeward_213 : decode cX9_homeward 213 = .ok (.aload_n 0, 1) := by decide +kernel
theorem dX9_homeward_214 : decode cX9_homeward 214 = .ok (.getfield 168, 3) := by decide +kernel
theorem dX9_homeward_217 : decode cX9_homeward 217 = .ok (.iload 6, 2) := by decide +kernel
theorem dX9_homeward_219 : decode cX9_homeward 219 = .ok (.aload_n 0, 1) := by decide +kernel
theorem dX9_homeward_220 : decode cX9_homeward 220 = .ok (.getfield 168, 3) := by decide +kernel
theorem dX9_homeward_223 : decode cX9_homeward 223 = .ok (.iload 5, 2) := by decide +kernel
theorem dX9_homeward_225 : decode cX9_homeward 225 = .ok (.iaload, 1) := by decide +kernel
theorem dX9_homeward_226 : decode cX9_homeward 226 = .ok (.aload_n 0, 1) := by decide +kernel
theorem dX9_homeward_227 : decode cX9_homeward 227 = .ok (.getfield 20, 3) := by decide +kernel
theorem dX9_homeward_230 : decode cX9_homeward 230 = .ok (.iload 4, 2) := by decide +kernel
theorem dX9_homeward_232 : decode cX9_homeward 232 = .ok (.iaload, 1) := by decide +kernel
theorem dX9_homeward_233 : decode cX9_homeward 233 = .ok (.iadd, 1) := by decide +kernel
theorem dX9_homeward_234 : decode cX9_homeward 234 = .ok (.aload_n 0, 1) := by decide +kernel
theorem dX9_homeward_235 : decode cX9_homeward 235 = .ok (.getfield 168, 3) := by decide +kernel
theorem dX9_homeward_238 : decode cX9_homeward 238 = .ok (.iload 6, 2) := by decide +kernel
theorem dX9_homeward_240 : decode cX9_homeward 240 = .ok (.iaload, 1) := by decide +kernel
theorem dX9_homeward_241 : decode cX9_homeward 241 = .ok (.if_icmp .ge 21, 3) := by decide +kernel
theorem dX9_homeward_244 : decode cX9_homeward 244 = .ok (.aload_n 0, 1) := by decide +kernel
theorem dX9_homeward_245 : decode cX9_homeward 245 = .ok (.getfield 168, 3) := by decide +kernel
theorem dX9_homeward_248 : decode cX9_homeward 248 = .ok (.iload 5, 2) := by decide +kernel
theorem dX9_homeward_250 : decode cX9_homeward 250 = .ok (.iaload, 1) := by decide +kernel
theorem dX9_homeward_251 : decode cX9_homeward 251 = .ok (.aload_n 0, 1) := by decide +kernel
theorem dX9_homeward_252 : decode cX9_homeward 252 = .ok (.getfield 20, 3) := by decide +kernel
theorem dX9_homeward_255 : decode cX9_homeward 255 = .ok (.iload 4, 2) := by decide +kernel
theorem dX9_homeward_257 : decode cX9_homeward 257 = .ok (.iaload, 1) := by decide +kernel
theorem dX9_homeward_258 : decode cX9_homeward 258 = .ok (.iadd, 1) := by decide +kernel
theorem dX9_homeward_259 : decode cX9_homeward 259 = .ok (.goto 10, 3) := by decide +kernel
theorem dX9_homeward_262 : decode cX9_homeward 262 = .ok (.aload_n 0, 1) := by decide +kernel
theorem dX9_homeward_263 : decode cX9_homeward 263 = .ok (.getfield 168, 3) := by decide +kernel
theorem dX9_homeward_266 : decode cX9_homeward 266 = .ok (.iload 6, 2) := by decide +kernel
theorem dX9_homeward_268 : decode cX9_homeward 268 = .ok (.iaload, 1) := by decide +kernel
theorem dX9_homeward_269 : decode cX9_homeward 269 = .ok (.iastore, 1) := by decide +kernel
theorem dX9_homeward_270 : decode cX9_homeward 270 = .ok (.iinc 4 1, 3) := by decide +kernel
theorem dX9_homeward_273 : decode cX9_homeward 273 = .ok (.goto (-170), 3) := by decide +kernel
theorem dX9_homeward_276 : decode cX9_homeward 276 = .ok (.iinc 3 1, 3) := by decide +kernel
theorem dX9_homeward_279 : decode cX9_homeward 279 = .ok (.goto (-185), 3) := by decide +kernel
theorem dX9_homeward_282 : decode cX9_homeward 282 = .ok (.iconst (-1), 1) := by decide +kernel
theorem dX9_homeward_283 : decode cX9_homeward 283 = .ok (.istore_n 3, 1) := by decide +kernel
theorem dX9_homeward_284 : decode cX9_homeward 284 = .ok (.aload_n 0, 1) := by decide +kernel
theorem dX9_homeward_285 : decode cX9_homeward 285 = .ok (.getfield 181, 3) := by decide +kernel
theorem dX9_homeward_288 : decode cX9_homeward 288 = .ok (.iconst 1, 1) := by decide +kernel
theorem dX9_homeward_289 : decode cX9_homeward 289 = .ok (.isub, 1) := by decide +kernel
theorem dX9_homeward_290 : decode cX9_homeward 290 = .ok (.istore 4, 2) := by decide +kernel
theorem dX9_homeward_292 : decode cX9_homeward 292 = .ok (.iload 4, 2) := by decide +kernel
theorem dX9_homeward_294 : decode cX9_homeward 294 = .ok (.ifCond .lt 87, 3) := by decide +kernel
theorem dX9_homeward_297 : decode cX9_homeward 297 = .ok (.aload_n 0, 1) := by decide +kernel
theorem dX9_homeward_298 : decode cX9_homeward 298 = .ok (.iload 4, 2) := by decide +kernel
theorem dX9_homeward_300 : decode cX9_homeward 300 = .ok (.iload_n 2, 1) := by decide +kernel
theorem dX9_homeward_301 : decode cX9_homeward 301 = .ok (.invokevirtual 252, 3) := by decide +kernel
theorem dX9_homeward_304 : decode cX9_homeward 304 = .ok (.istore 5, 2) := by decide +kernel
theorem dX9_homeward_306 : decode cX9_homeward 306 = .ok (.iload 5, 2) := by decide +kernel
theorem dX9_homeward_308 : decode cX9_homeward 308 = .ok (.iconst (-1), 1) := by decide +kernel
theorem dX9_homeward_309 : decode cX9_homeward 309 = .ok (.if_icmp .eq 64, 3) := by decide +kernel
theorem dX9_homeward_312 : decode cX9_homeward 312 = .ok (.aload_n 0, 1) := by decide +kernel
theorem dX9_homeward_313 : decode cX9_homeward 313 = .ok (.getfield 48, 3) := by decide +kernel
theorem dX9_homeward_316 : decode cX9_homeward 316 = .ok (.iload 4, 2) := by decide +kernel
theorem dX9_homeward_318 : decode cX9_homeward 318 = .ok (.iaload, 1) := by decide +kernel
theorem dX9_homeward_319 : decode cX9_homeward 319 = .ok (.iconst (-1), 1) := by decide +kernel
theorem dX9_homeward_320 : decode cX9_homeward 320 = .ok (.if_icmp .ne 53, 3) := by decide +kernel
theorem dX9_homeward_323 : decode cX9_homeward 323 = .ok (.aload_n 0, 1) := by decide +kernel
theorem dX9_homeward_324 : decode cX9_homeward 324 = .ok (.iload 4, 2) := by decide +kernel
theorem dX9_homeward_326 : decode cX9_homeward 326 = .ok (.invokevirtual 204, 3) := by decide +kernel
theorem dX9_homeward_329 : decode cX9_homeward 329 = .ok (.ifCond .ne 44, 3) := by decide +kernel
theorem dX9_homeward_332 : decode cX9_homeward 332 = .ok (.aload_n 0, 1) := by decide +kernel
theorem dX9_homeward_333 : decode cX9_homeward 333 = .ok (.getfield 168, 3) := by decide +kernel
theorem dX9_homeward_336 : decode cX9_homeward 336 = .ok (.iload_n 2, 1) := by decide +kernel
theorem dX9_homeward_337 : decode cX9_homeward 337 = .ok (.iaload, 1) := by decide +kernel
theorem dX9_homeward_338 : decode cX9_homeward 338 = .ok (.ldc_w 306, 3) := by decide +kernel
theorem dX9_homeward_341 : decode cX9_homeward 341 = .ok (.if_icmp .ge 32, 3) := by decide +kernel
theorem dX9_homeward_344 : decode cX9_homeward 344 = .ok (.aload_n 0, 1) := by decide +kernel
theorem dX9_homeward_345 : decode cX9_homeward 345 = .ok (.getfield 168, 3) := by decide +kernel
theorem dX9_homeward_348 : decode cX9_homeward 348 = .ok (.iload 5, 2) := by decide +kernel
theorem dX9_homeward_350 : decode cX9_homeward 350 = .ok (.iaload, 1) := by decide +kernel
theorem dX9_homeward_351 : decode cX9_homeward 351 = .ok (.aload_n 0, 1) := by decide +kernel
theorem dX9_homeward_352 : decode cX9_homeward 352 = .ok (.getfield 20, 3) := by decide +kernel
theorem dX9_homeward_355 : decode cX9_homeward 355 = .ok (.iload 4, 2) := by decide +kernel
theorem dX9_homeward_357 : decode cX9_homeward 357 = .ok (.iaload, 1) := by decide +kernel
theorem dX9_homeward_358 : decode cX9_homeward 358 = .ok (.iadd, 1) := by decide +kernel
theorem dX9_homeward_359 : decode cX9_homeward 359 = .ok (.aload_n 0, 1) := by decide +kernel
theorem dX9_homeward_360 : decode cX9_homeward 360 = .ok (.getfield 168, 3) := by decide +kernel
theorem dX9_homeward_363 : decode cX9_homeward 363 = .ok (.iload_n 2, 1) := by decide +kernel
theorem dX9_homeward_364 : decode cX9_homeward 364 = .ok (.iaload, 1) := by decide +kernel
theorem dX9_homeward_365 : decode cX9_homeward 365 = .ok (.if_icmp .ne 8, 3) := by decide +kernel
theorem dX9_homeward_368 : decode cX9_homeward 368 = .ok (.iload 4, 2) := by decide +kernel
theorem dX9_homeward_370 : decode cX9_homeward 370 = .ok (.goto 4, 3) := by decide +kernel
theorem dX9_homeward_373 : decode cX9_homeward 373 = .ok (.iload_n 3, 1) := by decide +kernel
theorem dX9_homeward_374 : decode cX9_homeward 374 = .ok (.istore_n 3, 1) := by decide +kernel
theorem dX9_homeward_375 : decode cX9_homeward 375 = .ok (.iinc 4 (-1), 3) := by decide +kernel
theorem dX9_homeward_378 : decode cX9_homeward 378 = .ok (.goto (-86), 3) := by decide +kernel
theorem dX9_homeward_381 : decode cX9_homeward 381 = .ok (.iload_n 3, 1) := by decide +kernel
theorem dX9_homeward_382 : decode cX9_homeward 382 = .ok (.ireturn, 1) := by decide +kernel
