theorem dX9_init_0 : decode cX9_init 0 = .ok (.aload_n 0, 1) := by decide +kernel
theorem dX9_init_1 : decode cX9_init 1 = .ok (.invokespecial 1, 3) := by decide +kernel
theorem dX9_init_4 : decode cX9_init 4 = .ok (.aload_n 0, 1) := by decide +kernel
theorem dX9_init_5 : decode cX9_init 5 = .ok (.iconst 0, 1) := by decide +kernel
theorem dX9_init_6 : decode cX9_init 6 = .ok (.putfield 7, 3) := by decide +kernel
theorem dX9_init_9 : decode cX9_init 9 = .ok (.aload_n 0, 1) := by decide +kernel
theorem dX9_init_10 : decode cX9_init 10 = .ok (.iconst 0, 1) := by decide +kernel
theorem dX9_init_11 : decode cX9_init 11 = .ok (.putfield 13, 3) := by decide +kernel
theorem dX9_init_14 : decode cX9_init 14 = .ok (.aload_n 0, 1) := by decide +kernel
theorem dX9_init_15 : decode cX9_init 15 = .ok (.bipush 8, 2) := by decide +kernel
theorem dX9_init_17 : decode cX9_init 17 = .ok (.newarray .int, 2) := by decide +kernel
theorem dX9_init_19 : decode cX9_init 19 = .ok (.putfield 16, 3) := by decide +kernel
theorem dX9_init_22 : decode cX9_init 22 = .ok (.aload_n 0, 1) := by decide +kernel
theorem dX9_init_23 : decode cX9_init 23 = .ok (.bipush 8, 2) := by decide +kernel
theorem dX9_init_25 : decode cX9_init 25 = .ok (.newarray .int, 2) := by decide +kernel
theorem dX9_init_27 : decode cX9_init 27 = .ok (.putfield 20, 3) := by decide +kernel
theorem dX9_init_30 : decode cX9_init 30 = .ok (.aload_n 0, 1) := by decide +kernel
theorem dX9_init_31 : decode cX9_init 31 = .ok (.bipush 16, 2) := by decide +kernel
theorem dX9_init_33 : decode cX9_init 33 = .ok (.newarray .int, 2) := by decide +kernel
theorem dX9_init_35 : decode cX9_init 35 = .ok (.putfield 23, 3) := by decide +kernel
theorem dX9_init_38 : decode cX9_init 38 = .ok (.aload_n 0, 1) := by decide +kernel
theorem dX9_init_39 : decode cX9_init 39 = .ok (.bipush 16, 2) := by decide +kernel
theorem dX9_init_41 : decode cX9_init 41 = .ok (.newarray .int, 2) := by decide +kernel
theorem dX9_init_43 : decode cX9_init 43 = .ok (.putfield 26, 3) := by decide +kernel
theorem dX9_init_46 : decode cX9_init 46 = .ok (.aload_n 0, 1) := by decide +kernel
theorem dX9_init_47 : decode cX9_init 47 = .ok (.bipush 16, 2) := by decide +kernel
theorem dX9_init_49 : decode cX9_init 49 = .ok (.newarray .int, 2) := by decide +kernel
theorem dX9_init_51 : decode cX9_init 51 = .ok (.putfield 29, 3) := by decide +kernel
theorem dX9_init_54 : decode cX9_init 54 = .ok (.aload_n 0, 1) := by decide +kernel
theorem dX9_init_55 : decode cX9_init 55 = .ok (.bipush 16, 2) := by decide +kernel
theorem dX9_init_57 : decode cX9_init 57 = .ok (.newarray .int, 2) := by decide +kernel
theorem dX9_init_59 : decode cX9_init 59 = .ok (.putfield 32, 3) := by decide +kernel
theorem dX9_init_62 : decode cX9_init 62 = .ok (.aload_n 0, 1) := by decide +kernel
theorem dX9_init_63 : decode cX9_init 63 = .ok (.bipush 16, 2) := by decide +kernel
theorem dX9_init_65 : decode cX9_init 65 = .ok (.newarray .int, 2) := by decide +kernel
theorem dX9_init_67 : decode cX9_init 67 = .ok (.putfield 35, 3) := by decide +kernel
theorem dX9_init_70 : decode cX9_init 70 = .ok (.aload_n 0, 1) := by decide +kernel
theorem dX9_init_71 : decode cX9_init 71 = .ok (.bipush 64, 2) := by decide +kernel
theorem dX9_init_73 : decode cX9_init 73 = .ok (.newarray .int, 2) := by decide +kernel
theorem dX9_init_75 : decode cX9_init 75 = .ok (.putfield 38, 3) := by decide +kernel
theorem dX9_init_78 : decode cX9_init 78 = .ok (.aload_n 0, 1) := by decide +kernel
theorem dX9_init_79 : decode cX9_init 79 = .ok (.iconst 0, 1) := by decide +kernel
theorem dX9_init_80 : decode cX9_init 80 = .ok (.putfield 41, 3) := by decide +kernel
theorem dX9_init_83 : decode cX9_init 83 = .ok (.aload_n 0, 1) := by decide +kernel
theorem dX9_init_84 : decode cX9_init 84 = .ok (.sipush 1200, 3) := by decide +kernel
theorem dX9_init_87 : decode cX9_init 87 = .ok (.putfield 44, 3) := by decide +kernel
theorem dX9_init_90 : decode cX9_init 90 = .ok (.aload_n 0, 1) := by decide +kernel
theorem dX9_init_91 : decode cX9_init 91 = .ok (.iconst 1, 1) := by decide +kernel
theorem dX9_init_92 : decode cX9_init 92 = .ok (.putfield 47, 3) := by decide +kernel
theorem dX9_init_95 : decode cX9_init 95 = .ok (.aload_n 0, 1) := by decide +kernel
theorem dX9_init_96 : decode cX9_init 96 = .ok (.iconst 0, 1) := by decide +kernel
theorem dX9_init_97 : decode cX9_init 97 = .ok (.putfield 50, 3) := by decide +kernel
theorem dX9_init_100 : decode cX9_init 100 = .ok (.aload_n 0, 1) := by decide +kernel
theorem dX9_init_101 : decode cX9_init 101 = .ok (.iconst (-1), 1) := by decide +kernel
theorem dX9_init_102 : decode cX9_init 102 = .ok (.putfield 53, 3) := by decide +kernel
theorem dX9_init_105 : decode cX9_init 105 = .ok (.aload_n 0, 1) := by decide +kernel
theorem dX9_init_106 : decode cX9_init 106 = .ok (.iconst 0, 1) := by decide +kernel
theorem dX9_init_107 : decode cX9_init 107 = .ok (.putfield 56, 3) := by decide +kernel
theorem dX9_init_110 : decode cX9_init 110 = .ok (.aload_n 0, 1) := by decide +kernel
theorem dX9_init_111 : decode cX9_init 111 = .ok (.iconst 0, 1) := by decide +kernel
theorem dX9_init_112 : decode cX9_init 112 = .ok (.putfield 59, 3) := by decide +kernel
theorem dX9_init_115 : decode cX9_init 115 = .ok (.aload_n 0, 1) := by decide +kernel
theorem dX9_init_116 : decode cX9_init 116 = .ok (.iconst 0, 1) := by decide +kernel
theorem dX9_init_117 : decode cX9_init 117 = .ok (.putfield 62, 3) := by decide +kernel
theorem dX9_init_120 : decode cX9_init 120 = .ok (.aload_n 0, 1) := by decide +kernel
theorem dX9_init_121 : decode cX9_init 121 = .ok (.bipush 40, 2) := by decide +kernel
theorem dX9_init_123 : decode cX9_init 123 = .ok (.newarray .int, 2) := by decide +kernel
theorem dX9_init_125 : decode cX9_init 125 = .ok (.putfield 65, 3) := by decide +kernel
theorem dX9_init_128 : decode cX9_init 128 = .ok (.aload_n 0, 1) := by decide +kernel
theorem dX9_init_129 : decode cX9_init 129 = .ok (.bipush 40, 2) := by decide +kernel
theorem dX9_init_131 : decode cX9_init 131 = .ok (.newarray .int, 2) := by decide +kernel
theorem dX9_init_133 : decode cX9_init 133 = .ok (.putfield 68, 3) := by decide +kernel
theorem dX9_init_136 : decode cX9_init 136 = .ok (.aload_n 0, 1) := by decide +kernel
theorem dX9_init_137 : decode cX9_init 137 = .ok (.bipush 40, 2) := by decide +kernel
theorem dX9_init_139 : decode cX9_init 139 = .ok (.newarray .int, 2) := by decide +kernel
theorem dX9_init_141 : decode cX9_init 141 = .ok (.putfield 71, 3) := by decide +kernel
theorem dX9_init_144 : decode cX9_init 144 = .ok (.aload_n 0, 1) := by decide +kernel
theorem dX9_init_145 : decode cX9_init 145 = .ok (.bipush 40, 2) := by decide +kernel
theorem dX9_init_147 : decode cX9_init 147 = .ok (.newarray .int, 2) := by decide +kernel
theorem dX9_init_149 : decode cX9_init 149 = .ok (.putfield 74, 3) := by decide +kernel
theorem dX9_init_152 : decode cX9_init 152 = .ok (.aload_n 0, 1) := by decide +kernel
theorem dX9_init_153 : decode cX9_init 153 = .ok (.iconst 0, 1) := by decide +kernel
theorem dX9_init_154 : decode cX9_init 154 = .ok (.putfield 77, 3) := by decide +kernel
theorem dX9_init_157 : decode cX9_init 157 = .ok (.aload_n 0, 1) := by decide +kernel
theorem dX9_init_158 : decode cX9_init 158 = .ok (.iconst (-1), 1) := by decide +kernel
theorem dX9_init_159 : decode cX9_init 159 = .ok (.putfield 80, 3) := by decide +kernel
theorem dX9_init_162 : decode cX9_init 162 = .ok (.aload_n 0, 1) := by decide +kernel
theorem dX9_init_163 : decode cX9_init 163 = .ok (.iconst 0, 1) := by decide +kernel
theorem dX9_init_164 : decode cX9_init 164 = .ok (.putfield 83, 3) := by decide +kernel
theorem dX9_init_167 : decode cX9_init 167 = .ok (.aload_n 0, 1) := by decide +kernel
theorem dX9_init_168 : decode cX9_init 168 = .ok (.iconst 0, 1) := by decide +kernel
theorem dX9_init_169 : decode cX9_init 169 = .ok (.putfield 86, 3) := by decide +kernel
theorem dX9_init_172 : decode cX9_init 172 = .ok (.aload_n 0, 1) := by decide +kernel
theorem dX9_init_173 : decode cX9_init 173 = .ok (.iconst 0, 1) := by decide +kernel
theorem dX9_init_174 : decode cX9_init 174 = .ok (.putfield 89, 3) := by decide +kernel
theorem dX9_init_177 : decode cX9_init 177 = .ok (.aload_n 0, 1) := by decide +kernel
theorem dX9_init_178 : decode cX9_init 178 = .ok (.iconst 0, 1) := by decide +kernel
theorem dX9_init_179 : decode cX9_init 179 = .ok (.putfield 92, 3) := by decide +kernel
theorem dX9_init_182 : decode cX9_init 182 = .ok (.aload_n 0, 1) := by decide +kernel
theorem dX9_init_183 : decode cX9_init 183 = .ok (.iconst 0, 1) := by decide +kernel
theorem dX9_init_184 : decode cX9_init 184 = .ok (.putfield 95, 3) := by decide +kernel
theorem dX9_init_187 : decode cX9_init 187 = .ok (.aload_n 0, 1) := by decide +kernel
theorem dX9_init_188 : decode cX9_init 188 = .ok (.iconst 0, 1) := by decide +kernel
theorem dX9_init_189 : decode cX9_init 189 = .ok (.putfield 98, 3) := by decide +kernel
theorem dX9_init_192 : decode cX9_init 192 = .ok (.aload_n 0, 1) := by decide +kernel
theorem dX9_init_193 : decode cX9_init 193 = .ok (.iconst 0, 1) := by decide +kernel
theorem dX9_init_194 : decode cX9_init 194 = .ok (.putfield 101, 3) := by decide +kernel
theorem dX9_init_197 : decode cX9_init 197 = .ok (.aload_n 0, 1) := by decide +kernel
theorem dX9_init_198 : decode cX9_init 198 = .ok (.iconst 0, 1) := by decide +kernel
theorem dX9_init_199 : decode cX9_init 199 = .ok (.putfield 105, 3) := by decide +kernel
theorem dX9_init_202 : decode cX9_init 202 = .ok (.aload_n 0, 1) := by decide +kernel
theorem dX9_init_203 : decode cX9_init 203 = .ok (.bipush 120, 2) := by decide +kernel
theorem dX9_init_205 : decode cX9_init 205 = .ok (.newarray .int, 2) := by decide +kernel
theorem dX9_init_207 : decode cX9_init 207 = .ok (.putfield 108, 3) := by decide +kernel
theorem dX9_init_210 : decode cX9_init 210 = .ok (.aload_n 0, 1) := by decide +kernel
theorem dX9_init_211 : decode cX9_init 211 = .ok (.sipush 600, 3) := by decide +kernel
theorem dX9_init_214 : decode cX9_init 214 = .ok (.newarray .int, 2) := by decide +kernel
theorem dX9_init_216 : decode cX9_init 216 = .ok (.putfield 111, 3) := by decide +kernel
theorem dX9_init_219 : decode cX9_init 219 = .ok (.aload_n 0, 1) := by decide +kernel
theorem dX9_init_220 : decode cX9_init 220 = .ok (.sipush 600, 3) := by decide +kernel
theorem dX9_init_223 : decode cX9_init 223 = .ok (.newarray .int, 2) := by decide +kernel
theorem dX9_init_225 : decode cX9_init 225 = .ok (.putfield 114, 3) := by decide +kernel
theorem dX9_init_228 : decode cX9_init 228 = .ok (.aload_n 0, 1) := by decide +kernel
theorem dX9_init_229 : decode cX9_init 229 = .ok (.iconst 5, 1) := by decide +kernel
theorem dX9_init_230 : decode cX9_init 230 = .ok (.newarray .int, 2) := by decide +kernel
theorem dX9_init_232 : decode cX9_init 232 = .ok (.putfield 117, 3) := by decide +kernel
theorem dX9_init_235 : decode cX9_init 235 = .ok (.aload_n 0, 1) := by decide +kernel
theorem dX9_init_236 : decode cX9_init 236 = .ok (.sipush 300, 3) := by decide +kernel
theorem dX9_init_239 : decode cX9_init 239 = .ok (.newarray .int, 2) := by decide +kernel
theorem dX9_init_241 : decode cX9_init 241 = .ok (.putfield 120, 3) := by decide +kernel
theorem dX9_init_244 : decode cX9_init 244 = .ok (.aload_n 0, 1) := by decide +kernel
theorem dX9_init_245 : decode cX9_init 245 = .ok (.sipush 300, 3) := by decide +kernel
theorem dX9_init_248 : decode cX9_init 248 = .ok (.newarray .int, 2) := by decide +kernel
theorem dX9_init_250 : decode cX9_init 250 = .ok (.putfield 123, 3) := by decide +kernel
theorem dX9_init_253 : decode cX9_init 253 = .ok (.aload_n 0, 1) := by decide +kernel
theorem dX9_init_254 : decode cX9_init 254 = .ok (.sipush 300, 3) := by decide +kernel
theorem dX9_init_257 : decode cX9_init 257 = .ok (.newarray .int, 2) := by decide +kernel
theorem dX9_init_259 : decode cX9_init 259 = .ok (.putfield 126, 3) := by decide +kernel
theorem dX9_init_262 : decode cX9_init 262 = .ok (.aload_n 0, 1) := by decide +kernel
theorem dX9_init_263 : decode cX9_init 263 = .ok (.bipush 121, 2) := by decide +kernel
theorem dX9_init_265 : decode cX9_init 265 = .ok (.newarray .int, 2) := by decide +kernel
theorem dX9_init_267 : decode cX9_init 267 = .ok (.putfield 129, 3) := by decide +kernel
theorem dX9_init_270 : decode cX9_init 270 = .ok (.aload_n 0, 1) := by decide +kernel
theorem dX9_init_271 : decode cX9_init 271 = .ok (.bipush 121, 2) := by decide +kernel
theorem dX9_init_273 : decode cX9_init 273 = .ok (.newarray .int, 2) := by decide +kernel
theorem dX9_init_275 : decode cX9_init 275 = .ok (.putfield 132, 3) := by decide +kernel
theorem dX9_init_278 : decode cX9_init 278 = .ok (.aload_n 0, 1) := by decide +kernel
theorem dX9_init_279 : decode cX9_init 279 = .ok (.bipush 10, 2) := by decide +kernel
theorem dX9_init_281 : decode cX9_init 281 = .ok (.newarray .int, 2) := by decide +kernel
theorem dX9_init_283 : decode cX9_init 283 = .ok (.putfield 135, 3) := by decide +kernel
theorem dX9_init_286 : decode cX9_init 286 = .ok (.aload_n 0, 1) := by decide +kernel
theorem dX9_init_287 : decode cX9_init 287 = .ok (.bipush 120, 2) := by decide +kernel
theorem dX9_init_289 : decode cX9_init 289 = .ok (.newarray .int, 2) := by decide +kernel
theorem dX9_init_291 : decode cX9_init 291 = .ok (.putfield 138, 3) := by decide +kernel
theorem dX9_init_294 : decode cX9_init 294 = .ok (.aload_n 0, 1) := by decide +kernel
theorem dX9_init_295 : decode cX9_init 295 = .ok (.bipush 120, 2) := by decide +kernel
theorem dX9_init_297 : decode cX9_init 297 = .ok (.newarray .int, 2) := by decide +kernel
theorem dX9_init_299 : decode cX9_init 299 = .ok (.putfield 141, 3) := by decide +kernel
theorem dX9_init_302 : decode cX9_init 302 = .ok (.aload_n 0, 1) := by decide +kernel
theorem dX9_init_303 : decode cX9_init 303 = .ok (.bipush 60, 2) := by decide +kernel
theorem dX9_init_305 : decode cX9_init 305 = .ok (.newarray .int, 2) := by decide +kernel
theorem dX9_init_307 : decode cX9_init 307 = .ok (.putfield 144, 3) := by decide +kernel
theorem dX9_init_310 : decode cX9_init 310 = .ok (.aload_n 0, 1) := by decide +kernel
theorem dX9_init_311 : decode cX9_init 311 = .ok (.bipush 60, 2) := by decide +kernel
theorem dX9_init_313 : decode cX9_init 313 = .ok (.newarray .int, 2) := by decide +kernel
theorem dX9_init_315 : decode cX9_init 315 = .ok (.putfield 147, 3) := by decide +kernel
theorem dX9_init_318 : decode cX9_init 318 = .ok (.aload_n 0, 1) := by decide +kernel
theorem dX9_init_319 : decode cX9_init 319 = .ok (.bipush 60, 2) := by decide +kernel
theorem dX9_init_321 : decode cX9_init 321 = .ok (.newarray .int, 2) := by decide +kernel
theorem dX9_init_323 : decode cX9_init 323 = .ok (.putfield 150, 3) := by decide +kernel
theorem dX9_init_326 : decode cX9_init 326 = .ok (.aload_n 0, 1) := by decide +kernel
theorem dX9_init_327 : decode cX9_init 327 = .ok (.sipush 23040, 3) := by decide +kernel
theorem dX9_init_330 : decode cX9_init 330 = .ok (.newarray .boolean, 2) := by decide +kernel
theorem dX9_init_332 : decode cX9_init 332 = .ok (.putfield 153, 3) := by decide +kernel
theorem dX9_init_335 : decode cX9_init 335 = .ok (.aload_n 0, 1) := by decide +kernel
theorem dX9_init_336 : decode cX9_init 336 = .ok (.iconst (-1), 1) := by decide +kernel
theorem dX9_init_337 : decode cX9_init 337 = .ok (.putfield 157, 3) := by decide +kernel
theorem dX9_init_340 : decode cX9_init 340 = .ok (.aload_n 0, 1) := by decide +kernel
theorem dX9_init_341 : decode cX9_init 341 = .ok (.iconst 1, 1) := by decide +kernel
theorem dX9_init_342 : decode cX9_init 342 = .ok (.putfield 160, 3) := by decide +kernel
theorem dX9_init_345 : decode cX9_init 345 = .ok (.aload_n 0, 1) := by decide +kernel
theorem dX9_init_346 : decode cX9_init 346 = .ok (.iconst 0, 1) := by decide +kernel
theorem dX9_init_347 : decode cX9_init 347 = .ok (.putfield 163, 3) := by decide +kernel
theorem dX9_init_350 : decode cX9_init 350 = .ok (.aload_n 0, 1) := by decide +kernel
theorem dX9_init_351 : decode cX9_init 351 = .ok (.iconst (-1), 1) := by decide +kernel
theorem dX9_init_352 : decode cX9_init 352 = .ok (.putfield 166, 3) := by decide +kernel
theorem dX9_init_355 : decode cX9_init 355 = .ok (.aload_n 0, 1) := by decide +kernel
theorem dX9_init_356 : decode cX9_init 356 = .ok (.bipush 8, 2) := by decide +kernel
theorem dX9_init_358 : decode cX9_init 358 = .ok (.newarray .int, 2) := by decide +kernel
theorem dX9_init_360 : decode cX9_init 360 = .ok (.putfield 169, 3) := by decide +kernel
theorem dX9_init_363 : decode cX9_init 363 = .ok (.aload_n 0, 1) := by decide +kernel
theorem dX9_init_364 : decode cX9_init 364 = .ok (.bipush 20, 2) := by decide +kernel
theorem dX9_init_366 : decode cX9_init 366 = .ok (.newarray .int, 2) := by decide +kernel
theorem dX9_init_368 : decode cX9_init 368 = .ok (.putfield 172, 3) := by decide +kernel
theorem dX9_init_371 : decode cX9_init 371 = .ok (.aload_n 0, 1) := by decide +kernel
theorem dX9_init_372 : decode cX9_init 372 = .ok (.iconst 0, 1) := by decide +kernel
theorem dX9_init_373 : decode cX9_init 373 = .ok (.putfield 175, 3) := by decide +kernel
theorem dX9_init_376 : decode cX9_init 376 = .ok (.aload_n 0, 1) := by decide +kernel
theorem dX9_init_377 : decode cX9_init 377 = .ok (.iconst 0, 1) := by decide +kernel
theorem dX9_init_378 : decode cX9_init 378 = .ok (.putfield 178, 3) := by decide +kernel
theorem dX9_init_381 : decode cX9_init 381 = .ok (.aload_n 0, 1) := by decide +kernel
theorem dX9_init_382 : decode cX9_init 382 = .ok (.bipush 100, 2) := by decide +kernel
theorem dX9_init_384 : decode cX9_init 384 = .ok (.newarray .boolean, 2) := by decide +kernel
theorem dX9_init_386 : decode cX9_init 386 = .ok (.putfield 181, 3) := by decide +kernel
theorem dX9_init_389 : decode cX9_init 389 = .ok (.aload_n 0, 1) := by decide +kernel
theorem dX9_init_390 : decode cX9_init 390 = .ok (.iconst 0, 1) := by decide +kernel
theorem dX9_init_391 : decode cX9_init 391 = .ok (.putfield 184, 3) := by decide +kernel
theorem dX9_init_394 : decode cX9_init 394 = .ok (.aload_n 0, 1) := by decide +kernel
theorem dX9_init_395 : decode cX9_init 395 = .ok (.iconst 0, 1) := by decide +kernel
theorem dX9_init_396 : decode cX9_init 396 = .ok (.putfield 187, 3) := by decide +kernel
theorem dX9_init_399 : decode cX9_init 399 = .ok (.aload_n 0, 1) := by decide +kernel
theorem dX9_init_400 : decode cX9_init 400 = .ok (.bipush 50, 2) := by decide +kernel
theorem dX9_init_402 : decode cX9_init 402 = .ok (.newarray .int, 2) := by decide +kernel
theorem dX9_init_404 : decode cX9_init 404 = .ok (.putfield 190, 3) := by decide +kernel
theorem dX9_init_407 : decode cX9_init 407 = .ok (.aload_n 0, 1) := by decide +kernel
theorem dX9_init_408 : decode cX9_init 408 = .ok (.bipush 24, 2) := by decide +kernel
theorem dX9_init_410 : decode cX9_init 410 = .ok (.newarray .int, 2) := by decide +kernel
theorem dX9_init_412 : decode cX9_init 412 = .ok (.putfield 193, 3) := by decide +kernel
theorem dX9_init_415 : decode cX9_init 415 = .ok (.aload_n 0, 1) := by decide +kernel
theorem dX9_init_416 : decode cX9_init 416 = .ok (.bipush 6, 2) := by decide +kernel
theorem dX9_init_418 : decode cX9_init 418 = .ok (.newarray .int, 2) := by decide +kernel
theorem dX9_init_420 : decode cX9_init 420 = .ok (.dup, 1) := by decide +kernel
theorem dX9_init_421 : decode cX9_init 421 = .ok (.iconst 0, 1) := by decide +kernel
theorem dX9_init_422 : decode cX9_init 422 = .ok (.iconst (-1), 1) := by decide +kernel
theorem dX9_init_423 : decode cX9_init 423 = .ok (.iastore, 1) := by decide +kernel
theorem dX9_init_424 : decode cX9_init 424 = .ok (.dup, 1) := by decide +kernel
theorem dX9_init_425 : decode cX9_init 425 = .ok (.iconst 1, 1) := by decide +kernel
theorem dX9_init_426 : decode cX9_init 426 = .ok (.iconst (-1), 1) := by decide +kernel
theorem dX9_init_427 : decode cX9_init 427 = .ok (.iastore, 1) := by decide +kernel
theorem dX9_init_428 : decode cX9_init 428 = .ok (.dup, 1) := by decide +kernel
theorem dX9_init_429 : decode cX9_init 429 = .ok (.iconst 2, 1) := by decide +kernel
theorem dX9_init_430 : decode cX9_init 430 = .ok (.iconst (-1), 1) := by decide +kernel
theorem dX9_init_431 : decode cX9_init 431 = .ok (.iastore, 1) := by decide +kernel
theorem dX9_init_432 : decode cX9_init 432 = .ok (.dup, 1) := by decide +kernel
theorem dX9_init_433 : decode cX9_init 433 = .ok (.iconst 3, 1) := by decide +kernel
theorem dX9_init_434 : decode cX9_init 434 = .ok (.iconst (-1), 1) := by decide +kernel
theorem dX9_init_435 : decode cX9_init 435 = .ok (.iastore, 1) := by decide +kernel
theorem dX9_init_436 : decode cX9_init 436 = .ok (.dup, 1) := by decide +kernel
theorem dX9_init_437 : decode cX9_init 437 = .ok (.iconst 4, 1) := by decide +kernel
theorem dX9_init_438 : decode cX9_init 438 = .ok (.iconst (-1), 1) := by decide +kernel
theorem dX9_init_439 : decode cX9_init 439 = .ok (.iastore, 1) := by decide +kernel
theorem dX9_init_440 : decode cX9_init 440 = .ok (.dup, 1) := by decide +kernel
theorem dX9_init_441 : decode cX9_init 441 = .ok (.iconst 5, 1) := by decide +kernel
theorem dX9_init_442 : decode cX9_init 442 = .ok (.iconst (-1), 1) := by decide +kernel
theorem dX9_init_443 : decode cX9_init 443 = .ok (.iastore, 1) := by decide +kernel
theorem dX9_init_444 : decode cX9_init 444 = .ok (.putfield 196, 3) := by decide +kernel
theorem dX9_init_447 : decode cX9_init 447 = .ok (.aload_n 0, 1) := by decide +kernel
theorem dX9_init_448 : decode cX9_init 448 = .ok (.bipush 6, 2) := by decide +kernel
theorem dX9_init_450 : decode cX9_init 450 = .ok (.newarray .int, 2) := by decide +kernel
theorem dX9_init_452 : decode cX9_init 452 = .ok (.putfield 199, 3) := by decide +kernel
theorem dX9_init_455 : decode cX9_init 455 = .ok (.aload_n 0, 1) := by decide +kernel
theorem dX9_init_456 : decode cX9_init 456 = .ok (.sipush 360, 3) := by decide +kernel
theorem dX9_init_459 : decode cX9_init 459 = .ok (.newarray .long, 2) := by decide +kernel
theorem dX9_init_461 : decode cX9_init 461 = .ok (.putfield 202, 3) := by decide +kernel
theorem dX9_init_464 : decode cX9_init 464 = .ok (.aload_n 0, 1) := by decide +kernel
theorem dX9_init_465 : decode cX9_init 465 = .ok (.bipush 60, 2) := by decide +kernel
theorem dX9_init_467 : decode cX9_init 467 = .ok (.newarray .long, 2) := by decide +kernel
theorem dX9_init_469 : decode cX9_init 469 = .ok (.putfield 206, 3) := by decide +kernel
theorem dX9_init_472 : decode cX9_init 472 = .ok (.return_, 1) := by decide +kernel
theorem dX9_within_0 : decode cX9_within 0 = .ok (.iload_n 1, 1) := by decide +kernel
theorem dX9_within_1 : decode cX9_within 1 = .ok (.iload_n 2, 1) := by decide +kernel
theorem dX9_within_2 : decode cX9_within 2 = .ok (.if_icmp .lt 12, 3) := by decide +kernel
theorem dX9_within_5 : decode cX9_within 5 = .ok (.iload_n 1, 1) := by decide +kernel
theorem dX9_within_6 : decode cX9_within 6 = .ok (.iload_n 3, 1) := by decide +kernel
theorem dX9_within_7 : decode cX9_within 7 = .ok (.if_icmp .gt 7, 3) := by decide +kernel
theorem dX9_within_10 : decode cX9_within 10 = .ok (.iconst 1, 1) := by decide +kernel
theorem dX9_within_11 : decode cX9_within 11 = .ok (.goto 4, 3) := by decide +kernel
theorem dX9_within_14 : decode cX9_within 14 = .ok (.iconst 0, 1) := by decide +kernel
theorem dX9_within_15 : decode cX9_within 15 = .ok (.ireturn, 1) := by decide +kernel
set_option maxRecDepth 20000 in
theorem ggX9_isPlace_X9_within : GoodIn wsX9_isPlace wsX9_within := goodIn_r _ [6] rfl (by decide +kernel)
set_option maxRecDepth 20000 in
theorem gX9_isPlace_X9_within : GoodIn wsX9_isPlace (wsV RX9 209 RX9 yX9_within wsX9_within) := goodIn_app (goodIn_of _ (by decide +kernel)) ggX9_isPlace_X9_within
theorem dX9_isPlace_0 : decode cX9_isPlace 0 = .ok (.aload_n 0, 1) := by decide +kernel
theorem dX9_isPlace_1 : decode cX9_isPlace 1 = .ok (.iload_n 1, 1) := by decide +kernel
theorem dX9_isPlace_2 : decode cX9_isPlace 2 = .ok (.iconst 0, 1) := by decide +kernel
theorem dX9_isPlace_3 : decode cX9_isPlace 3 = .ok (.aload_n 0, 1) := by decide +kernel
theorem dX9_isPlace_4 : decode cX9_isPlace 4 = .ok (.getfield 7, 3) := by decide +kernel
theorem dX9_isPlace_7 : decode cX9_isPlace 7 = .ok (.iconst 1, 1) := by decide +kernel
theorem dX9_isPlace_8 : decode cX9_isPlace 8 = .ok (.isub, 1) := by decide +kernel
theorem dX9_isPlace_9 : decode cX9_isPlace 9 = .ok (.invokevirtual 209, 3) := by decide +kernel
theorem dX9_isPlace_12 : decode cX9_isPlace 12 = .ok (.ireturn, 1) := by decide +kernel
set_option maxRecDepth 20000 in
theorem ggX9_isRoad_X9_within : GoodIn wsX9_isRoad wsX9_within := goodIn_r _ [6] rfl (by decide +kernel)
set_option maxRecDepth 20000 in
theorem gX9_isRoad_X9_within : GoodIn wsX9_isRoad (wsV RX9 209 RX9 yX9_within wsX9_within) := goodIn_app (goodIn_of _ (by decide +kernel)) ggX9_isRoad_X9_within
theorem dX9_isRoad_0 : decode cX9_isRoad 0 = .ok (.aload_n 0, 1) := by decide +kernel
theorem dX9_isRoad_1 : decode cX9_isRoad 1 = .ok (.iload_n 1, 1) := by decide +kernel
theorem dX9_isRoad_2 : decode cX9_isRoad 2 = .ok (.iconst 0, 1) := by decide +kernel
theorem dX9_isRoad_3 : decode cX9_isRoad 3 = .ok (.aload_n 0, 1) := by decide +kernel
theorem dX9_isRoad_4 : decode cX9_isRoad 4 = .ok (.getfield 13, 3) := by decide +kernel
theorem dX9_isRoad_7 : decode cX9_isRoad 7 = .ok (.iconst 1, 1) := by decide +kernel
theorem dX9_isRoad_8 : decode cX9_isRoad 8 = .ok (.isub, 1) := by decide +kernel
theorem dX9_isRoad_9 : decode cX9_isRoad 9 = .ok (.invokevirtual 209, 3) := by decide +kernel
theorem dX9_isRoad_12 : decode cX9_isRoad 12 = .ok (.ireturn, 1) := by decide +kernel
set_option maxRecDepth 20000 in
theorem ggX9_isPair_X9_within : GoodIn wsX9_isPair wsX9_within := goodIn_r _ [5] rfl (by decide +kernel)
set_option maxRecDepth 20000 in
theorem gX9_isPair_X9_within : GoodIn wsX9_isPair (wsV RX9 209 RX9 yX9_within wsX9_within) := goodIn_app (goodIn_of _ (by decide +kernel)) ggX9_isPair_X9_within
set_option maxRecDepth 20000 in
theorem ggX9_isPair_X9_isPlace : GoodIn wsX9_isPair wsX9_isPlace := goodIn_r _ [9, 10, 1, 2, 3, 4, 5, 11, 12, 13, 14, 15, 16, 17, 18, 19, 20, 21, 22, 23, 24, 25, 26, 27, 28, 29, 30, 31, 32, 33, 34, 35, 36, 37, 38, 39, 40, 41, 42, 43, 44, 45, 46, 47, 48, 49, 50, 51, 52, 53, 54, 55, 56, 57, 58, 59, 60, 61, 62, 63, 64, 65, 66, 67, 68, 69, 70, 71, 72, 73, 74, 75] rfl (by decide +kernel)
set_option maxRecDepth 20000 in
theorem gX9_isPair_X9_isPlace : GoodIn wsX9_isPair (wsV RX9 213 RX9 yX9_isPlace wsX9_isPlace) := goodIn_app (goodIn_of _ (by decide +kernel)) ggX9_isPair_X9_isPlace
theorem dX9_isPair_0 : decode cX9_isPair 0 = .ok (.aload_n 0, 1) := by decide +kernel
theorem dX9_isPair_1 : decode cX9_isPair 1 = .ok (.iload_n 1, 1) := by decide +kernel
theorem dX9_isPair_2 : decode cX9_isPair 2 = .ok (.iconst 0, 1) := by decide +kernel
theorem dX9_isPair_3 : decode cX9_isPair 3 = .ok (.bipush 77, 2) := by decide +kernel
theorem dX9_isPair_5 : decode cX9_isPair 5 = .ok (.invokevirtual 209, 3) := by decide +kernel
theorem dX9_isPair_8 : decode cX9_isPair 8 = .ok (.ifCond .eq 29, 3) := by decide +kernel
theorem dX9_isPair_11 : decode cX9_isPair 11 = .ok (.aload_n 0, 1) := by decide +kernel
theorem dX9_isPair_12 : decode cX9_isPair 12 = .ok (.iload_n 1, 1) := by decide +kernel
theorem dX9_isPair_13 : decode cX9_isPair 13 = .ok (.bipush 10, 2) := by decide +kernel
theorem dX9_isPair_15 : decode cX9_isPair 15 = .ok (.idiv, 1) := by decide +kernel
theorem dX9_isPair_16 : decode cX9_isPair 16 = .ok (.invokevirtual 213, 3) := by decide +kernel
theorem dX9_isPair_19 : decode cX9_isPair 19 = .ok (.ifCond .eq 18, 3) := by decide +kernel
theorem dX9_isPair_22 : decode cX9_isPair 22 = .ok (.aload_n 0, 1) := by decide +kernel
theorem dX9_isPair_23 : decode cX9_isPair 23 = .ok (.iload_n 1, 1) := by decide +kernel
theorem dX9_isPair_24 : decode cX9_isPair 24 = .ok (.bipush 10, 2) := by decide +kernel
theorem dX9_isPair_26 : decode cX9_isPair 26 = .ok (.irem, 1) := by decide +kernel
theorem dX9_isPair_27 : decode cX9_isPair 27 = .ok (.invokevirtual 213, 3) := by decide +kernel
theorem dX9_isPair_30 : decode cX9_isPair 30 = .ok (.ifCond .eq 7, 3) := by decide +kernel
theorem dX9_isPair_33 : decode cX9_isPair 33 = .ok (.iconst 1, 1) := by decide +kernel
theorem dX9_isPair_34 : decode cX9_isPair 34 = .ok (.goto 4, 3) := by decide +kernel
theorem dX9_isPair_37 : decode cX9_isPair 37 = .ok (.iconst 0, 1) := by decide +kernel
theorem dX9_isPair_38 : decode cX9_isPair 38 = .ok (.ireturn, 1) := by decide +kernel
set_option maxRecDepth 20000 in
theorem ggX9_place_X9_within : GoodIn wsX9_place wsX9_within := goodIn_r _ [8] rfl (by decide +kernel)
set_option maxRecDepth 20000 in
theorem gX9_place_X9_within : GoodIn wsX9_place (wsV RX9 209 RX9 yX9_within wsX9_within) := goodIn_app (goodIn_of _ (by decide +kernel)) ggX9_place_X9_within
theorem dX9_place_0 : decode cX9_place 0 = .ok (.aload_n 0, 1) := by decide +kernel
theorem dX9_place_1 : decode cX9_place 1 = .ok (.iload_n 1, 1) := by decide +kernel
theorem dX9_place_2 : decode cX9_place 2 = .ok (.iconst 0, 1) := by decide +kernel
theorem dX9_place_3 : decode cX9_place 3 = .ok (.bipush 91, 2) := by decide +kernel
theorem dX9_place_5 : decode cX9_place 5 = .ok (.invokevirtual 209, 3) := by decide +kernel
theorem dX9_place_8 : decode cX9_place 8 = .ok (.ifCond .eq 11, 3) := by decide +kernel
theorem dX9_place_11 : decode cX9_place 11 = .ok (.iload_n 1, 1) := by decide +kernel
theorem dX9_place_12 : decode cX9_place 12 = .ok (.bipush 10, 2) := by decide +kernel
theorem dX9_place_14 : decode cX9_place 14 = .ok (.irem, 1) := by decide +kernel
theorem dX9_place_15 : decode cX9_place 15 = .ok (.iconst 1, 1) := by decide +kernel
theorem dX9_place_16 : decode cX9_place 16 = .ok (.if_icmp .le 5, 3) := by decide +kernel
theorem dX9_place_19 : decode cX9_place 19 = .ok (.iconst (-1), 1) := by decide +kernel
theorem dX9_place_20 : decode cX9_place 20 = .ok (.ireturn, 1) := by decide +kernel
theorem dX9_place_21 : decode cX9_place 21 = .ok (.aload_n 0, 1) := by decide +kernel
theorem dX9_place_22 : decode cX9_place 22 = .ok (.getfield 7, 3) := by decide +kernel
theorem dX9_place_25 : decode cX9_place 25 = .ok (.bipush 8, 2) := by decide +kernel
theorem dX9_place_27 : decode cX9_place 27 = .ok (.if_icmp .ne 6, 3) := by decide +kernel
theorem dX9_place_30 : decode cX9_place 30 = .ok (.bipush (-3), 2) := by decide +kernel
theorem dX9_place_32 : decode cX9_place 32 = .ok (.ireturn, 1) := by decide +kernel
theorem dX9_place_33 : decode cX9_place 33 = .ok (.aload_n 0, 1) := by decide +kernel
theorem dX9_place_34 : decode cX9_place 34 = .ok (.getfield 16, 3) := by decide +kernel
theorem dX9_place_37 : decode cX9_place 37 = .ok (.aload_n 0, 1) := by decide +kernel
theorem dX9_place_38 : decode cX9_place 38 = .ok (.getfield 7, 3) := by decide +kernel
theorem dX9_place_41 : decode cX9_place 41 = .ok (.iload_n 1, 1) := by decide +kernel
theorem dX9_place_42 : decode cX9_place 42 = .ok (.bipush 10, 2) := by decide +kernel
theorem dX9_place_44 : decode cX9_place 44 = .ok (.idiv, 1) := by decide +kernel
theorem dX9_place_45 : decode cX9_place 45 = .ok (.iastore, 1) := by decide +kernel
theorem dX9_place_46 : decode cX9_place 46 = .ok (.aload_n 0, 1) := by decide +kernel
theorem dX9_place_47 : decode cX9_place 47 = .ok (.getfield 20, 3) := by decide +kernel
theorem dX9_place_50 : decode cX9_place 50 = .ok (.aload_n 0, 1) := by decide +kernel
theorem dX9_place_51 : decode cX9_place 51 = .ok (.getfield 7, 3) := by decide +kernel
theorem dX9_place_54 : decode cX9_place 54 = .ok (.iload_n 1, 1) := by decide +kernel
theorem dX9_place_55 : decode cX9_place 55 = .ok (.bipush 10, 2) := by decide +kernel
theorem dX9_place_57 : decode cX9_place 57 = .ok (.irem, 1) := by decide +kernel
theorem dX9_place_58 : decode cX9_place 58 = .ok (.iastore, 1) := by decide +kernel
theorem dX9_place_59 : decode cX9_place 59 = .ok (.aload_n 0, 1) := by decide +kernel
theorem dX9_place_60 : decode cX9_place 60 = .ok (.dup, 1) := by decide +kernel
theorem dX9_place_61 : decode cX9_place 61 = .ok (.getfield 7, 3) := by decide +kernel
theorem dX9_place_64 : decode cX9_place 64 = .ok (.iconst 1, 1) := by decide +kernel
theorem dX9_place_65 : decode cX9_place 65 = .ok (.iadd, 1) := by decide +kernel
theorem dX9_place_66 : decode cX9_place 66 = .ok (.putfield 7, 3) := by decide +kernel
theorem dX9_place_69 : decode cX9_place 69 = .ok (.aload_n 0, 1) := by decide +kernel
theorem dX9_place_70 : decode cX9_place 70 = .ok (.getfield 7, 3) := by decide +kernel
theorem dX9_place_73 : decode cX9_place 73 = .ok (.iconst 1, 1) := by decide +kernel
theorem dX9_place_74 : decode cX9_place 74 = .ok (.isub, 1) := by decide +kernel
theorem dX9_place_75 : decode cX9_place 75 = .ok (.ireturn, 1) := by decide +kernel
set_option maxRecDepth 20000 in
theorem ggX9_mayRoad_X9_isPair : GoodIn wsX9_mayRoad wsX9_isPair := goodIn_r _ [5, 6, 7, 8, 4, 9, 10, 11, 12, 13, 14, 15, 16, 17, 18, 19, 20, 21, 22, 23, 24, 25, 26, 27, 28, 29, 30, 31, 32, 33, 34, 35, 36, 37, 38, 39, 40, 41, 42, 43, 44, 45, 46, 47, 48, 49, 50, 51, 52, 53, 54, 55, 56, 57, 58, 59, 60, 61, 62, 63, 64, 65, 66, 67, 68, 69, 70, 71, 72, 73, 74, 75, 76, 77, 78, 79] rfl (by decide +kernel)
set_option maxRecDepth 20000 in
theorem gX9_mayRoad_X9_isPair : GoodIn wsX9_mayRoad (wsV RX9 217 RX9 yX9_isPair wsX9_isPair) := goodIn_app (goodIn_of _ (by decide +kernel)) ggX9_mayRoad_X9_isPair
set_option maxRecDepth 20000 in
theorem ggX9_mayRoad_X9_within : GoodIn wsX9_mayRoad wsX9_within := goodIn_r _ [9] rfl (by decide +kernel)
set_option maxRecDepth 20000 in
theorem gX9_mayRoad_X9_within : GoodIn wsX9_mayRoad (wsV RX9 209 RX9 yX9_within wsX9_within) := goodIn_app (goodIn_of _ (by decide +kernel)) ggX9_mayRoad_X9_within
theorem dX9_mayRoad_0 : decode cX9_mayRoad 0 = .ok (.aload_n 0, 1) := by decide +kernel
theorem dX9_mayRoad_1 : decode cX9_mayRoad 1 = .ok (.iload_n 1, 1) := by decide +kernel
theorem dX9_mayRoad_2 : decode cX9_mayRoad 2 = .ok (.invokevirtual 217, 3) := by decide +kernel
theorem dX9_mayRoad_5 : decode cX9_mayRoad 5 = .ok (.ifCond .eq 53, 3) := by decide +kernel
theorem dX9_mayRoad_8 : decode cX9_mayRoad 8 = .ok (.iload_n 1, 1) := by decide +kernel
theorem dX9_mayRoad_9 : decode cX9_mayRoad 9 = .ok (.bipush 10, 2) := by decide +kernel
theorem dX9_mayRoad_11 : decode cX9_mayRoad 11 = .ok (.idiv, 1) := by decide +kernel
theorem dX9_mayRoad_12 : decode cX9_mayRoad 12 = .ok (.iload_n 1, 1) := by decide +kernel
theorem dX9_mayRoad_13 : decode cX9_mayRoad 13 = .ok (.bipush 10, 2) := by decide +kernel
theorem dX9_mayRoad_15 : decode cX9_mayRoad 15 = .ok (.irem, 1) := by decide +kernel
theorem dX9_mayRoad_16 : decode cX9_mayRoad 16 = .ok (.if_icmp .eq 42, 3) := by decide +kernel
theorem dX9_mayRoad_19 : decode cX9_mayRoad 19 = .ok (.aload_n 0, 1) := by decide +kernel
theorem dX9_mayRoad_20 : decode cX9_mayRoad 20 = .ok (.iload_n 2, 1) := by decide +kernel
theorem dX9_mayRoad_21 : decode cX9_mayRoad 21 = .ok (.iconst 1, 1) := by decide +kernel
theorem dX9_mayRoad_22 : decode cX9_mayRoad 22 = .ok (.bipush 60, 2) := by decide +kernel
theorem dX9_mayRoad_24 : decode cX9_mayRoad 24 = .ok (.invokevirtual 209, 3) := by decide +kernel
theorem dX9_mayRoad_27 : decode cX9_mayRoad 27 = .ok (.ifCond .eq 31, 3) := by decide +kernel
theorem dX9_mayRoad_30 : decode cX9_mayRoad 30 = .ok (.aload_n 0, 1) := by decide +kernel
theorem dX9_mayRoad_31 : decode cX9_mayRoad 31 = .ok (.iload_n 3, 1) := by decide +kernel
theorem dX9_mayRoad_32 : decode cX9_mayRoad 32 = .ok (.iconst 1, 1) := by decide +kernel
theorem dX9_mayRoad_33 : decode cX9_mayRoad 33 = .ok (.sipush 300, 3) := by decide +kernel
theorem dX9_mayRoad_36 : decode cX9_mayRoad 36 = .ok (.invokevirtual 209, 3) := by decide +kernel
theorem dX9_mayRoad_39 : decode cX9_mayRoad 39 = .ok (.ifCond .eq 19, 3) := by decide +kernel
theorem dX9_mayRoad_42 : decode cX9_mayRoad 42 = .ok (.aload_n 0, 1) := by decide +kernel
theorem dX9_mayRoad_43 : decode cX9_mayRoad 43 = .ok (.iload 4, 2) := by decide +kernel
theorem dX9_mayRoad_45 : decode cX9_mayRoad 45 = .ok (.iconst 0, 1) := by decide +kernel
theorem dX9_mayRoad_46 : decode cX9_mayRoad 46 = .ok (.bipush 99, 2) := by decide +kernel
theorem dX9_mayRoad_48 : decode cX9_mayRoad 48 = .ok (.invokevirtual 209, 3) := by decide +kernel
theorem dX9_mayRoad_51 : decode cX9_mayRoad 51 = .ok (.ifCond .eq 7, 3) := by decide +kernel
theorem dX9_mayRoad_54 : decode cX9_mayRoad 54 = .ok (.iconst 1, 1) := by decide +kernel
theorem dX9_mayRoad_55 : decode cX9_mayRoad 55 = .ok (.goto 4, 3) := by decide +kernel
theorem dX9_mayRoad_58 : decode cX9_mayRoad 58 = .ok (.iconst 0, 1) := by decide +kernel
theorem dX9_mayRoad_59 : decode cX9_mayRoad 59 = .ok (.ireturn, 1) := by decide +kernel
theorem dX9_addRoad_0 : decode cX9_addRoad 0 = .ok (.aload_n 0, 1) := by decide +kernel
theorem dX9_addRoad_1 : decode cX9_addRoad 1 = .ok (.getfield 23, 3) := by decide +kernel
theorem dX9_addRoad_4 : decode cX9_addRoad 4 = .ok (.aload_n 0, 1) := by decide +kernel
theorem dX9_addRoad_5 : decode cX9_addRoad 5 = .ok (.getfield 13, 3) := by decide +kernel
theorem dX9_addRoad_8 : decode cX9_addRoad 8 = .ok (.iload_n 1, 1) := by decide +kernel
theorem dX9_addRoad_9 : decode cX9_addRoad 9 = .ok (.bipush 10, 2) := by decide +kernel
theorem dX9_addRoad_11 : decode cX9_addRoad 11 = .ok (.idiv, 1) := by decide +kernel
theorem dX9_addRoad_12 : decode cX9_addRoad 12 = .ok (.iastore, 1) := by decide +kernel
theorem dX9_addRoad_13 : decode cX9_addRoad 13 = .ok (.aload_n 0, 1) := by decide +kernel
theorem dX9_addRoad_14 : decode cX9_addRoad 14 = .ok (.getfield 26, 3) := by decide +kernel
theorem dX9_addRoad_17 : decode cX9_addRoad 17 = .ok (.aload_n 0, 1) := by decide +kernel
theorem dX9_addRoad_18 : decode cX9_addRoad 18 = .ok (.getfield 13, 3) := by decide +kernel
theorem dX9_addRoad_21 : decode cX9_addRoad 21 = .ok (.iload_n 1, 1) := by decide +kernel
theorem dX9_addRoad_22 : decode cX9_addRoad 22 = .ok (.bipush 10, 2) := by decide +kernel
theorem dX9_addRoad_24 : decode cX9_addRoad 24 = .ok (.irem, 1) := by decide +kernel
theorem dX9_addRoad_25 : decode cX9_addRoad 25 = .ok (.iastore, 1) := by decide +kernel
theorem dX9_addRoad_26 : decode cX9_addRoad 26 = .ok (.aload_n 0, 1) := by decide +kernel
theorem dX9_addRoad_27 : decode cX9_addRoad 27 = .ok (.getfield 29, 3) := by decide +kernel
theorem dX9_addRoad_30 : decode cX9_addRoad 30 = .ok (.aload_n 0, 1) := by decide +kernel
theorem dX9_addRoad_31 : decode cX9_addRoad 31 = .ok (.getfield 13, 3) := by decide +kernel
theorem dX9_addRoad_34 : decode cX9_addRoad 34 = .ok (.iload_n 2, 1) := by decide +kernel
theorem dX9_addRoad_35 : decode cX9_addRoad 35 = .ok (.iastore, 1) := by decide +kernel
theorem dX9_addRoad_36 : decode cX9_addRoad 36 = .ok (.aload_n 0, 1) := by decide +kernel
theorem dX9_addRoad_37 : decode cX9_addRoad 37 = .ok (.getfield 32, 3) := by decide +kernel
theorem dX9_addRoad_40 : decode cX9_addRoad 40 = .ok (.aload_n 0, 1) := by decide +kernel
theorem dX9_addRoad_41 : decode cX9_addRoad 41 = .ok (.getfield 13, 3) := by decide +kernel
theorem dX9_addRoad_44 : decode cX9_addRoad 44 = .ok (.iload_n 3, 1) := by decide +kernel
theorem dX9_addRoad_45 : decode cX9_addRoad 45 = .ok (.iastore, 1) := by decide +kernel
theorem dX9_addRoad_46 : decode cX9_addRoad 46 = .ok (.aload_n 0, 1) := by decide +kernel
theorem dX9_addRoad_47 : decode cX9_addRoad 47 = .ok (.getfield 35, 3) := by decide +kernel
theorem dX9_addRoad_50 : decode cX9_addRoad 50 = .ok (.aload_n 0, 1) := by decide +kernel
theorem dX9_addRoad_51 : decode cX9_addRoad 51 = .ok (.getfield 13, 3) := by decide +kernel
theorem dX9_addRoad_54 : decode cX9_addRoad 54 = .ok (.iload 4, 2) := by decide +kernel
theorem dX9_addRoad_56 : decode cX9_addRoad 56 = .ok (.iastore, 1) := by decide +kernel
theorem dX9_addRoad_57 : decode cX9_addRoad 57 = .ok (.aload_n 0, 1) := by decide +kernel
theorem dX9_addRoad_58 : decode cX9_addRoad 58 = .ok (.dup, 1) := by decide +kernel
theorem dX9_addRoad_59 : decode cX9_addRoad 59 = .ok (.getfield 13, 3) := by decide +kernel
theorem dX9_addRoad_62 : decode cX9_addRoad 62 = .ok (.iconst 1, 1) := by decide +kernel
theorem dX9_addRoad_63 : decode cX9_addRoad 63 = .ok (.iadd, 1) := by decide +kernel
theorem dX9_addRoad_64 : decode cX9_addRoad 64 = .ok (.putfield 13, 3) := by decide +kernel
theorem dX9_addRoad_67 : decode cX9_addRoad 67 = .ok (.aload_n 0, 1) := by decide +kernel
theorem dX9_addRoad_68 : decode cX9_addRoad 68 = .ok (.getfield 13, 3) := by decide +kernel
theorem dX9_addRoad_71 : decode cX9_addRoad 71 = .ok (.iconst 1, 1) := by decide +kernel
theorem dX9_addRoad_72 : decode cX9_addRoad 72 = .ok (.isub, 1) := by decide +kernel
theorem dX9_addRoad_73 : decode cX9_addRoad 73 = .ok (.ireturn, 1) := by decide +kernel
set_option maxRecDepth 20000 in
theorem ggX9_road_X9_mayRoad : GoodIn wsX9_road wsX9_mayRoad := goodIn_r _ [6, 7, 8, 9, 5, 10, 11, 12, 13, 14, 15, 16, 17, 18, 19, 29, 30, 31, 32, 33, 34, 35, 36, 37, 38, 39, 40, 41, 42, 43, 44, 45, 46, 47, 48, 49, 50, 51, 52, 53, 54, 55, 56, 57, 58, 59, 60, 61, 62, 63, 64, 65, 66, 67, 68, 69, 70, 71, 72, 73, 74, 75, 76, 77, 78, 79, 80, 81, 82, 83, 84, 85, 86, 87, 88, 89, 90, 91, 92, 93] rfl (by decide +kernel)
set_option maxRecDepth 20000 in
theorem gX9_road_X9_mayRoad : GoodIn wsX9_road (wsV RX9 220 RX9 yX9_mayRoad wsX9_mayRoad) := goodIn_app (goodIn_of _ (by decide +kernel)) ggX9_road_X9_mayRoad
set_option maxRecDepth 20000 in
theorem ggX9_road_X9_addRoad : GoodIn wsX9_road wsX9_addRoad := goodIn_r _ [23, 24, 1, 25, 26, 27, 28, 29, 30, 31, 32, 33, 34, 35, 36, 37, 38, 39, 40, 41, 42, 43, 44, 45, 46, 47, 48, 49, 50, 51, 52, 53, 54, 55, 56, 57, 58, 59, 60, 61, 62, 63, 64, 65, 66, 67, 68, 69, 70, 71, 72, 73, 74, 75, 76, 77, 78, 79, 80, 81, 82, 83, 84, 85, 86, 87, 88, 89, 90, 91, 92, 93] rfl (by decide +kernel)
set_option maxRecDepth 20000 in
theorem gX9_road_X9_addRoad : GoodIn wsX9_road (wsV RX9 224 RX9 yX9_addRoad wsX9_addRoad) := goodIn_app (goodIn_of _ (by decide +kernel)) ggX9_road_X9_addRoad
theorem dX9_road_0 : decode cX9_road 0 = .ok (.iload_n 3, 1) := by decide +kernel
theorem dX9_road_1 : decode cX9_road 1 = .ok (.ifCond .lt 20, 3) := by decide +kernel
theorem dX9_road_4 : decode cX9_road 4 = .ok (.aload_n 0, 1) := by decide +kernel
theorem dX9_road_5 : decode cX9_road 5 = .ok (.iload_n 1, 1) := by decide +kernel
theorem dX9_road_6 : decode cX9_road 6 = .ok (.iload_n 2, 1) := by decide +kernel
theorem dX9_road_7 : decode cX9_road 7 = .ok (.iload_n 3, 1) := by decide +kernel
theorem dX9_road_8 : decode cX9_road 8 = .ok (.bipush 100, 2) := by decide +kernel
theorem dX9_road_10 : decode cX9_road 10 = .ok (.idiv, 1) := by decide +kernel
theorem dX9_road_11 : decode cX9_road 11 = .ok (.iload_n 3, 1) := by decide +kernel
theorem dX9_road_12 : decode cX9_road 12 = .ok (.bipush 100, 2) := by decide +kernel
theorem dX9_road_14 : decode cX9_road 14 = .ok (.irem, 1) := by decide +kernel
theorem dX9_road_15 : decode cX9_road 15 = .ok (.invokevirtual 220, 3) := by decide +kernel
theorem dX9_road_18 : decode cX9_road 18 = .ok (.ifCond .ne 5, 3) := by decide +kernel
theorem dX9_road_21 : decode cX9_road 21 = .ok (.iconst (-1), 1) := by decide +kernel
theorem dX9_road_22 : decode cX9_road 22 = .ok (.ireturn, 1) := by decide +kernel
theorem dX9_road_23 : decode cX9_road 23 = .ok (.aload_n 0, 1) := by decide +kernel
theorem dX9_road_24 : decode cX9_road 24 = .ok (.getfield 13, 3) := by decide +kernel
theorem dX9_road_27 : decode cX9_road 27 = .ok (.bipush 16, 2) := by decide +kernel
theorem dX9_road_29 : decode cX9_road 29 = .ok (.if_icmp .ne 8, 3) := by decide +kernel
theorem dX9_road_32 : decode cX9_road 32 = .ok (.bipush (-3), 2) := by decide +kernel
theorem dX9_road_34 : decode cX9_road 34 = .ok (.goto 17, 3) := by decide +kernel
theorem dX9_road_37 : decode cX9_road 37 = .ok (.aload_n 0, 1) := by decide +kernel
theorem dX9_road_38 : decode cX9_road 38 = .ok (.iload_n 1, 1) := by decide +kernel
theorem dX9_road_39 : decode cX9_road 39 = .ok (.iload_n 2, 1) := by decide +kernel
theorem dX9_road_40 : decode cX9_road 40 = .ok (.iload_n 3, 1) := by decide +kernel
theorem dX9_road_41 : decode cX9_road 41 = .ok (.bipush 100, 2) := by decide +kernel
theorem dX9_road_43 : decode cX9_road 43 = .ok (.idiv, 1) := by decide +kernel
theorem dX9_road_44 : decode cX9_road 44 = .ok (.iload_n 3, 1) := by decide +kernel
theorem dX9_road_45 : decode cX9_road 45 = .ok (.bipush 100, 2) := by decide +kernel
theorem dX9_road_47 : decode cX9_road 47 = .ok (.irem, 1) := by decide +kernel
theorem dX9_road_48 : decode cX9_road 48 = .ok (.invokevirtual 224, 3) := by decide +kernel
theorem dX9_road_51 : decode cX9_road 51 = .ok (.ireturn, 1) := by decide +kernel
set_option maxRecDepth 20000 in
theorem ggX9_walk_X9_isPair : GoodIn wsX9_walk wsX9_isPair := goodIn_r _ [6, 7, 8, 9, 5, 10, 11, 12, 13, 14, 15, 16, 17, 18, 19, 20, 21, 22, 23, 24, 25, 26, 27, 28, 29, 30, 31, 32, 33, 34, 35, 36, 37, 38, 39, 40, 41, 42, 43, 44, 45, 46, 47, 48, 49, 50, 51, 52, 53, 54, 55, 56, 57, 58, 59, 60, 61, 62, 63, 64, 65, 66, 67, 68, 69, 70, 71, 72, 73, 74, 75, 76, 77, 78, 79, 80] rfl (by decide +kernel)
set_option maxRecDepth 20000 in
theorem gX9_walk_X9_isPair : GoodIn wsX9_walk (wsV RX9 217 RX9 yX9_isPair wsX9_isPair) := goodIn_app (goodIn_of _ (by decide +kernel)) ggX9_walk_X9_isPair
set_option maxRecDepth 20000 in
theorem ggX9_walk_X9_within : GoodIn wsX9_walk wsX9_within := goodIn_r _ [10] rfl (by decide +kernel)
set_option maxRecDepth 20000 in
theorem gX9_walk_X9_within : GoodIn wsX9_walk (wsV RX9 209 RX9 yX9_within wsX9_within) := goodIn_app (goodIn_of _ (by decide +kernel)) ggX9_walk_X9_within
theorem dX9_walk_0 : decode cX9_walk 0 = .ok (.aload_n 0, 1) := by decide +kernel
theorem dX9_walk_1 : decode cX9_walk 1 = .ok (.iload_n 1, 1) := by decide +kernel
theorem dX9_walk_2 : decode cX9_walk 2 = .ok (.invokevirtual 217, 3) := by decide +kernel
theorem dX9_walk_5 : decode cX9_walk 5 = .ok (.ifCond .eq 26, 3) := by decide +kernel
theorem dX9_walk_8 : decode cX9_walk 8 = .ok (.iload_n 1, 1) := by decide +kernel
theorem dX9_walk_9 : decode cX9_walk 9 = .ok (.bipush 10, 2) := by decide +kernel
theorem dX9_walk_11 : decode cX9_walk 11 = .ok (.idiv, 1) := by decide +kernel
theorem dX9_walk_12 : decode cX9_walk 12 = .ok (.iload_n 1, 1) := by decide +kernel
theorem dX9_walk_13 : decode cX9_walk 13 = .ok (.bipush 10, 2) := by decide +kernel
theorem dX9_walk_15 : decode cX9_walk 15 = .ok (.irem, 1) := by decide +kernel
theorem dX9_walk_16 : decode cX9_walk 16 = .ok (.if_icmp .eq 15, 3) := by decide +kernel
theorem dX9_walk_19 : decode cX9_walk 19 = .ok (.aload_n 0, 1) := by decide +kernel
theorem dX9_walk_20 : decode cX9_walk 20 = .ok (.iload_n 2, 1) := by decide +kernel
theorem dX9_walk_21 : decode cX9_walk 21 = .ok (.iconst 0, 1) := by decide +kernel
theorem dX9_walk_22 : decode cX9_walk 22 = .ok (.sipush 300, 3) := by decide +kernel
theorem dX9_walk_25 : decode cX9_walk 25 = .ok (.invokevirtual 209, 3) := by decide +kernel
theorem dX9_walk_28 : decode cX9_walk 28 = .ok (.ifCond .ne 5, 3) := by decide +kernel
theorem dX9_walk_31 : decode cX9_walk 31 = .ok (.iconst (-1), 1) := by decide +kernel
theorem dX9_walk_32 : decode cX9_walk 32 = .ok (.ireturn, 1) := by decide +kernel
theorem dX9_walk_33 : decode cX9_walk 33 = .ok (.aload_n 0, 1) := by decide +kernel
theorem dX9_walk_34 : decode cX9_walk 34 = .ok (.getfield 38, 3) := by decide +kernel
theorem dX9_walk_37 : decode cX9_walk 37 = .ok (.bipush 8, 2) := by decide +kernel
theorem dX9_walk_39 : decode cX9_walk 39 = .ok (.iload_n 1, 1) := by decide +kernel
theorem dX9_walk_40 : decode cX9_walk 40 = .ok (.bipush 10, 2) := by decide +kernel
theorem dX9_walk_42 : decode cX9_walk 42 = .ok (.idiv, 1) := by decide +kernel
theorem dX9_walk_43 : decode cX9_walk 43 = .ok (.imul, 1) := by decide +kernel
theorem dX9_walk_44 : decode cX9_walk 44 = .ok (.iload_n 1, 1) := by decide +kernel
theorem dX9_walk_45 : decode cX9_walk 45 = .ok (.bipush 10, 2) := by decide +kernel
theorem dX9_walk_47 : decode cX9_walk 47 = .ok (.irem, 1) := by decide +kernel
theorem dX9_walk_48 : decode cX9_walk 48 = .ok (.iadd, 1) := by decide +kernel
theorem dX9_walk_49 : decode cX9_walk 49 = .ok (.iaload, 1) := by decide +kernel
theorem dX9_walk_50 : decode cX9_walk 50 = .ok (.istore_n 3, 1) := by decide +kernel
theorem dX9_walk_51 : decode cX9_walk 51 = .ok (.aload_n 0, 1) := by decide +kernel
theorem dX9_walk_52 : decode cX9_walk 52 = .ok (.getfield 38, 3) := by decide +kernel
theorem dX9_walk_55 : decode cX9_walk 55 = .ok (.bipush 8, 2) := by decide +kernel
theorem dX9_walk_57 : decode cX9_walk 57 = .ok (.iload_n 1, 1) := by decide +kernel
theorem dX9_walk_58 : decode cX9_walk 58 = .ok (.bipush 10, 2) := by decide +kernel
theorem dX9_walk_60 : decode cX9_walk 60 = .ok (.idiv, 1) := by decide +kernel
theorem dX9_walk_61 : decode cX9_walk 61 = .ok (.imul, 1) := by decide +kernel
theorem dX9_walk_62 : decode cX9_walk 62 = .ok (.iload_n 1, 1) := by decide +kernel
theorem dX9_walk_63 : decode cX9_walk 63 = .ok (.bipush 10, 2) := by decide +kernel
theorem dX9_walk_65 : decode cX9_walk 65 = .ok (.irem, 1) := by decide +kernel
theorem dX9_walk_66 : decode cX9_walk 66 = .ok (.iadd, 1) := by decide +kernel
theorem dX9_walk_67 : decode cX9_walk 67 = .ok (.iload_n 2, 1) := by decide +kernel
theorem dX9_walk_68 : decode cX9_walk 68 = .ok (.iastore, 1) := by decide +kernel
theorem dX9_walk_69 : decode cX9_walk 69 = .ok (.aload_n 0, 1) := by decide +kernel
theorem dX9_walk_70 : decode cX9_walk 70 = .ok (.getfield 38, 3) := by decide +kernel
theorem dX9_walk_73 : decode cX9_walk 73 = .ok (.bipush 8, 2) := by decide +kernel
theorem dX9_walk_75 : decode cX9_walk 75 = .ok (.iload_n 1, 1) := by decide +kernel
theorem dX9_walk_76 : decode cX9_walk 76 = .ok (.bipush 10, 2) := by decide +kernel
theorem dX9_walk_78 : decode cX9_walk 78 = .ok (.irem, 1) := by decide +kernel
theorem dX9_walk_79 : decode cX9_walk 79 = .ok (.imul, 1) := by decide +kernel
theorem dX9_walk_80 : decode cX9_walk 80 = .ok (.iload_n 1, 1) := by decide +kernel
theorem dX9_walk_81 : decode cX9_walk 81 = .ok (.bipush 10, 2) := by decide +kernel
theorem dX9_walk_83 : decode cX9_walk 83 = .ok (.idiv, 1) := by decide +kernel
theorem dX9_walk_84 : decode cX9_walk 84 = .ok (.iadd, 1) := by decide +kernel
theorem dX9_walk_85 : decode cX9_walk 85 = .ok (.iload_n 2, 1) := by decide +kernel
theorem dX9_walk_86 : decode cX9_walk 86 = .ok (.iastore, 1) := by decide +kernel
theorem dX9_walk_87 : decode cX9_walk 87 = .ok (.iload_n 3, 1) := by decide +kernel
theorem dX9_walk_88 : decode cX9_walk 88 = .ok (.ireturn, 1) := by decide +kernel
set_option maxRecDepth 20000 in
theorem ggX9_maySet_X9_within : GoodIn wsX9_maySet wsX9_within := goodIn_r _ [5] rfl (by decide +kernel)
set_option maxRecDepth 20000 in
theorem gX9_maySet_X9_within : GoodIn wsX9_maySet (wsV RX9 209 RX9 yX9_within wsX9_within) := goodIn_app (goodIn_of _ (by decide +kernel)) ggX9_maySet_X9_within
theorem dX9_maySet_0 : decode cX9_maySet 0 = .ok (.iload_n 1, 1) := by decide +kernel
theorem dX9_maySet_1 : decode cX9_maySet 1 = .ok (.tableswitch 79 0 4 #[35, 44, 54, 62, 70], 35) := by decide +kernel
theorem dX9_maySet_36 : decode cX9_maySet 36 = .ok (.aload_n 0, 1) := by decide +kernel
theorem dX9_maySet_37 : decode cX9_maySet 37 = .ok (.iload_n 2, 1) := by decide +kernel
theorem dX9_maySet_38 : decode cX9_maySet 38 = .ok (.iconst 0, 1) := by decide +kernel
theorem dX9_maySet_39 : decode cX9_maySet 39 = .ok (.bipush 7, 2) := by decide +kernel
theorem dX9_maySet_41 : decode cX9_maySet 41 = .ok (.invokevirtual 209, 3) := by decide +kernel
theorem dX9_maySet_44 : decode cX9_maySet 44 = .ok (.ireturn, 1) := by decide +kernel
theorem dX9_maySet_45 : decode cX9_maySet 45 = .ok (.aload_n 0, 1) := by decide +kernel
theorem dX9_maySet_46 : decode cX9_maySet 46 = .ok (.iload_n 2, 1) := by decide +kernel
theorem dX9_maySet_47 : decode cX9_maySet 47 = .ok (.iconst 0, 1) := by decide +kernel
theorem dX9_maySet_48 : decode cX9_maySet 48 = .ok (.sipush 1439, 3) := by decide +kernel
theorem dX9_maySet_51 : decode cX9_maySet 51 = .ok (.invokevirtual 209, 3) := by decide +kernel
theorem dX9_maySet_54 : decode cX9_maySet 54 = .ok (.ireturn, 1) := by decide +kernel
theorem dX9_maySet_55 : decode cX9_maySet 55 = .ok (.aload_n 0, 1) := by decide +kernel
theorem dX9_maySet_56 : decode cX9_maySet 56 = .ok (.iload_n 2, 1) := by decide +kernel
theorem dX9_maySet_57 : decode cX9_maySet 57 = .ok (.iconst 1, 1) := by decide +kernel
theorem dX9_maySet_58 : decode cX9_maySet 58 = .ok (.iconst 2, 1) := by decide +kernel
theorem dX9_maySet_59 : decode cX9_maySet 59 = .ok (.invokevirtual 209, 3) := by decide +kernel
theorem dX9_maySet_62 : decode cX9_maySet 62 = .ok (.ireturn, 1) := by decide +kernel
theorem dX9_maySet_63 : decode cX9_maySet 63 = .ok (.aload_n 0, 1) := by decide +kernel
theorem dX9_maySet_64 : decode cX9_maySet 64 = .ok (.iload_n 2, 1) := by decide +kernel
theorem dX9_maySet_65 : decode cX9_maySet 65 = .ok (.iconst 0, 1) := by decide +kernel
theorem dX9_maySet_66 : decode cX9_maySet 66 = .ok (.iconst 1, 1) := by decide +kernel
theorem dX9_maySet_67 : decode cX9_maySet 67 = .ok (.invokevirtual 209, 3) := by decide +kernel
theorem dX9_maySet_70 : decode cX9_maySet 70 = .ok (.ireturn, 1) := by decide +kernel
theorem dX9_maySet_71 : decode cX9_maySet 71 = .ok (.aload_n 0, 1) := by decide +kernel
theorem dX9_maySet_72 : decode cX9_maySet 72 = .ok (.iload_n 2, 1) := by decide +kernel
theorem dX9_maySet_73 : decode cX9_maySet 73 = .ok (.iconst (-1), 1) := by decide +kernel
theorem dX9_maySet_74 : decode cX9_maySet 74 = .ok (.bipush 7, 2) := by decide +kernel
theorem dX9_maySet_76 : decode cX9_maySet 76 = .ok (.invokevirtual 209, 3) := by decide +kernel
theorem dX9_maySet_79 : decode cX9_maySet 79 = .ok (.ireturn, 1) := by decide +kernel
theorem dX9_maySet_80 : decode cX9_maySet 80 = .ok (.iload_n 1, 1) := by decide +kernel
theorem dX9_maySet_81 : decode cX9_maySet 81 = .ok (.iconst 5, 1) := by decide +kernel
theorem dX9_maySet_82 : decode cX9_maySet 82 = .ok (.if_icmp .ne 7, 3) := by decide +kernel
theorem dX9_maySet_85 : decode cX9_maySet 85 = .ok (.iconst 1, 1) := by decide +kernel
theorem dX9_maySet_86 : decode cX9_maySet 86 = .ok (.goto 4, 3) := by decide +kernel
theorem dX9_maySet_89 : decode cX9_maySet 89 = .ok (.iconst 0, 1) := by decide +kernel
theorem dX9_maySet_90 : decode cX9_maySet 90 = .ok (.ireturn, 1) := by decide +kernel
theorem dX9_setting_0 : decode cX9_setting 0 = .ok (.iload_n 1, 1) := by decide +kernel
theorem dX9_setting_1 : decode cX9_setting 1 = .ok (.tableswitch 60 0 4 #[35, 40, 45, 50, 55], 35) := by decide +kernel
theorem dX9_setting_36 : decode cX9_setting 36 = .ok (.aload_n 0, 1) := by decide +kernel
theorem dX9_setting_37 : decode cX9_setting 37 = .ok (.getfield 41, 3) := by decide +kernel
theorem dX9_setting_40 : decode cX9_setting 40 = .ok (.ireturn, 1) := by decide +kernel
theorem dX9_setting_41 : decode cX9_setting 41 = .ok (.aload_n 0, 1) := by decide +kernel
theorem dX9_setting_42 : decode cX9_setting 42 = .ok (.getfield 44, 3) := by decide +kernel
theorem dX9_setting_45 : decode cX9_setting 45 = .ok (.ireturn, 1) := by decide +kernel
theorem dX9_setting_46 : decode cX9_setting 46 = .ok (.aload_n 0, 1) := by decide +kernel
theorem dX9_setting_47 : decode cX9_setting 47 = .ok (.getfield 47, 3) := by decide +kernel
theorem dX9_setting_50 : decode cX9_setting 50 = .ok (.ireturn, 1) := by decide +kernel
theorem dX9_setting_51 : decode cX9_setting 51 = .ok (.aload_n 0, 1) := by decide +kernel
theorem dX9_setting_52 : decode cX9_setting 52 = .ok (.getfield 50, 3) := by decide +kernel
theorem dX9_setting_55 : decode cX9_setting 55 = .ok (.ireturn, 1) := by decide +kernel
theorem dX9_setting_56 : decode cX9_setting 56 = .ok (.aload_n 0, 1) := by decide +kernel
theorem dX9_setting_57 : decode cX9_setting 57 = .ok (.getfield 53, 3) := by decide +kernel
theorem dX9_setting_60 : decode cX9_setting 60 = .ok (.ireturn, 1) := by decide +kernel
theorem dX9_setting_61 : decode cX9_setting 61 = .ok (.aload_n 0, 1) := by decide +kernel
theorem dX9_setting_62 : decode cX9_setting 62 = .ok (.getfield 56, 3) := by decide +kernel
theorem dX9_setting_65 : decode cX9_setting 65 = .ok (.ireturn, 1) := by decide +kernel
set_option maxRecDepth 20000 in
theorem ggX9_set_X9_maySet : GoodIn wsX9_set wsX9_maySet := goodIn_r _ [12, 13, 14, 15, 11, 16] rfl (by decide +kernel)
set_option maxRecDepth 20000 in
theorem gX9_set_X9_maySet : GoodIn wsX9_set (wsV RX9 228 RX9 yX9_maySet wsX9_maySet) := goodIn_app (goodIn_of _ (by decide +kernel)) ggX9_set_X9_maySet
set_option maxRecDepth 20000 in
theorem ggX9_set_X9_setting : GoodIn wsX9_set wsX9_setting := goodIn_r _ [20, 2, 3, 4, 5, 6, 7, 21, 22, 23, 24, 25, 26, 27, 28, 29, 30, 31, 32, 33, 34, 35, 36, 37, 38, 39, 40, 41, 42, 43, 44, 45, 46, 47, 48, 49, 50, 51, 52, 53, 54, 55, 56, 57, 58, 59, 60, 61, 62, 63, 64, 65, 66, 67, 68, 69, 70, 71, 72, 73, 74, 75, 76, 77, 78, 79, 80, 81, 82, 83, 84, 85] rfl (by decide +kernel)
set_option maxRecDepth 20000 in
theorem gX9_set_X9_setting : GoodIn wsX9_set (wsV RX9 233 RX9 yX9_setting wsX9_setting) := goodIn_app (goodIn_of _ (by decide +kernel)) ggX9_set_X9_setting
theorem dX9_set_0 : decode cX9_set 0 = .ok (.aload_n 0, 1) := by decide +kernel
theorem dX9_set_1 : decode cX9_set 1 = .ok (.iload_n 1, 1) := by decide +kernel
theorem dX9_set_2 : decode cX9_set 2 = .ok (.iload_n 2, 1) := by decide +kernel
theorem dX9_set_3 : decode cX9_set 3 = .ok (.invokevirtual 228, 3) := by decide +kernel
theorem dX9_set_6 : decode cX9_set 6 = .ok (.ifCond .ne 6, 3) := by decide +kernel
theorem dX9_set_9 : decode cX9_set 9 = .ok (.ldc 232, 2) := by decide +kernel
theorem dX9_set_11 : decode cX9_set 11 = .ok (.ireturn, 1) := by decide +kernel
theorem dX9_set_12 : decode cX9_set 12 = .ok (.aload_n 0, 1) := by decide +kernel
theorem dX9_set_13 : decode cX9_set 13 = .ok (.iload_n 1, 1) := by decide +kernel
theorem dX9_set_14 : decode cX9_set 14 = .ok (.invokevirtual 233, 3) := by decide +kernel
theorem dX9_set_17 : decode cX9_set 17 = .ok (.istore_n 3, 1) := by decide +kernel
theorem dX9_set_18 : decode cX9_set 18 = .ok (.iload_n 1, 1) := by decide +kernel
theorem dX9_set_19 : decode cX9_set 19 = .ok (.tableswitch 73 0 4 #[33, 41, 49, 57, 65], 33) := by decide +kernel
theorem dX9_set_52 : decode cX9_set 52 = .ok (.aload_n 0, 1) := by decide +kernel
theorem dX9_set_53 : decode cX9_set 53 = .ok (.iload_n 2, 1) := by decide +kernel
theorem dX9_set_54 : decode cX9_set 54 = .ok (.putfield 41, 3) := by decide +kernel
theorem dX9_set_57 : decode cX9_set 57 = .ok (.goto 40, 3) := by decide +kernel
theorem dX9_set_60 : decode cX9_set 60 = .ok (.aload_n 0, 1) := by decide +kernel
theorem dX9_set_61 : decode cX9_set 61 = .ok (.iload_n 2, 1) := by decide +kernel
theorem dX9_set_62 : decode cX9_set 62 = .ok (.putfield 44, 3) := by decide +kernel
theorem dX9_set_65 : decode cX9_set 65 = .ok (.goto 32, 3) := by decide +kernel
theorem dX9_set_68 : decode cX9_set 68 = .ok (.aload_n 0, 1) := by decide +kernel
theorem dX9_set_69 : decode cX9_set 69 = .ok (.iload_n 2, 1) := by decide +kernel
theorem dX9_set_70 : decode cX9_set 70 = .ok (.putfield 47, 3) := by decide +kernel
theorem dX9_set_73 : decode cX9_set 73 = .ok (.goto 24, 3) := by decide +kernel
theorem dX9_set_76 : decode cX9_set 76 = .ok (.aload_n 0, 1) := by decide +kernel
theorem dX9_set_77 : decode cX9_set 77 = .ok (.iload_n 2, 1) := by decide +kernel
theorem dX9_set_78 : decode cX9_set 78 = .ok (.putfield 50, 3) := by decide +kernel
theorem dX9_set_81 : decode cX9_set 81 = .ok (.goto 16, 3) := by decide +kernel
theorem dX9_set_84 : decode cX9_set 84 = .ok (.aload_n 0, 1) := by decide +kernel
theorem dX9_set_85 : decode cX9_set 85 = .ok (.iload_n 2, 1) := by decide +kernel
theorem dX9_set_86 : decode cX9_set 86 = .ok (.putfield 53, 3) := by decide +kernel
theorem dX9_set_89 : decode cX9_set 89 = .ok (.goto 8, 3) := by decide +kernel
theorem dX9_set_92 : decode cX9_set 92 = .ok (.aload_n 0, 1) := by decide +kernel
theorem dX9_set_93 : decode cX9_set 93 = .ok (.iload_n 2, 1) := by decide +kernel
theorem dX9_set_94 : decode cX9_set 94 = .ok (.putfield 56, 3) := by decide +kernel
theorem dX9_set_97 : decode cX9_set 97 = .ok (.iload_n 3, 1) := by decide +kernel
theorem dX9_set_98 : decode cX9_set 98 = .ok (.ireturn, 1) := by decide +kernel
set_option maxRecDepth 20000 in
theorem ggX9_of_X9_within : GoodIn wsX9_of wsX9_within := goodIn_r _ [12] rfl (by decide +kernel)
set_option maxRecDepth 20000 in
theorem gX9_of_X9_within : GoodIn wsX9_of (wsV RX9 209 RX9 yX9_within wsX9_within) := goodIn_app (goodIn_of _ (by decide +kernel)) ggX9_of_X9_within
set_option maxRecDepth 20000 in
theorem ggX9_of_X9_isPlace : GoodIn wsX9_of wsX9_isPlace := goodIn_r _ [16, 17, 8, 9, 10, 11, 12, 23, 24, 25, 26, 27, 28, 29, 30, 31, 32, 33, 34, 35, 36, 37, 38, 39, 40, 41, 42, 43, 44, 45, 46, 47, 48, 49, 50, 51, 52, 53, 54, 55, 56, 57, 58, 59, 60, 61, 62, 63, 64, 65, 66, 67, 68, 69, 70, 71, 72, 73, 74, 75, 76, 77, 78, 79, 80, 81, 82, 83, 84, 85, 86, 87] rfl (by decide +kernel)
set_option maxRecDepth 20000 in
theorem gX9_of_X9_isPlace : GoodIn wsX9_of (wsV RX9 213 RX9 yX9_isPlace wsX9_isPlace) := goodIn_app (goodIn_of _ (by decide +kernel)) ggX9_of_X9_isPlace
set_option maxRecDepth 20000 in
theorem ggX9_of_X9_isRoad : GoodIn wsX9_of wsX9_isRoad := goodIn_r _ [21, 22, 8, 9, 10, 11, 12, 23, 24, 25, 26, 27, 28, 29, 30, 31, 32, 33, 34, 35, 36, 37, 38, 39, 40, 41, 42, 43, 44, 45, 46, 47, 48, 49, 50, 51, 52, 53, 54, 55, 56, 57, 58, 59, 60, 61, 62, 63, 64, 65, 66, 67, 68, 69, 70, 71, 72, 73, 74, 75, 76, 77, 78, 79, 80, 81, 82, 83, 84, 85, 86, 87] rfl (by decide +kernel)
set_option maxRecDepth 20000 in
theorem gX9_of_X9_isRoad : GoodIn wsX9_of (wsV RX9 237 RX9 yX9_isRoad wsX9_isRoad) := goodIn_app (goodIn_of _ (by decide +kernel)) ggX9_of_X9_isRoad
theorem dX9_of_0 : decode cX9_of 0 = .ok (.aload_n 0, 1) := by decide +kernel
theorem dX9_of_1 : decode cX9_of 1 = .ok (.iload_n 2, 1) := by decide +kernel
theorem dX9_of_2 : decode cX9_of 2 = .ok (.iconst 0, 1) := by decide +kernel
theorem dX9_of_3 : decode cX9_of 3 = .ok (.iconst 1, 1) := by decide +kernel
theorem dX9_of_4 : decode cX9_of 4 = .ok (.invokevirtual 209, 3) := by decide +kernel
theorem dX9_of_7 : decode cX9_of 7 = .ok (.ifCond .eq 35, 3) := by decide +kernel
theorem dX9_of_10 : decode cX9_of 10 = .ok (.aload_n 0, 1) := by decide +kernel
theorem dX9_of_11 : decode cX9_of 11 = .ok (.iload_n 1, 1) := by decide +kernel
theorem dX9_of_12 : decode cX9_of 12 = .ok (.invokevirtual 213, 3) := by decide +kernel
theorem dX9_of_15 : decode cX9_of 15 = .ok (.ifCond .ne 7, 3) := by decide +kernel
theorem dX9_of_18 : decode cX9_of 18 = .ok (.iconst (-1), 1) := by decide +kernel
theorem dX9_of_19 : decode cX9_of 19 = .ok (.goto 22, 3) := by decide +kernel
theorem dX9_of_22 : decode cX9_of 22 = .ok (.iload_n 2, 1) := by decide +kernel
theorem dX9_of_23 : decode cX9_of 23 = .ok (.ifCond .ne 12, 3) := by decide +kernel
theorem dX9_of_26 : decode cX9_of 26 = .ok (.aload_n 0, 1) := by decide +kernel
theorem dX9_of_27 : decode cX9_of 27 = .ok (.getfield 16, 3) := by decide +kernel
theorem dX9_of_30 : decode cX9_of 30 = .ok (.iload_n 1, 1) := by decide +kernel
theorem dX9_of_31 : decode cX9_of 31 = .ok (.iaload, 1) := by decide +kernel
theorem dX9_of_32 : decode cX9_of 32 = .ok (.goto 9, 3) := by decide +kernel
theorem dX9_of_35 : decode cX9_of 35 = .ok (.aload_n 0, 1) := by decide +kernel
theorem dX9_of_36 : decode cX9_of 36 = .ok (.getfield 20, 3) := by decide +kernel
theorem dX9_of_39 : decode cX9_of 39 = .ok (.iload_n 1, 1) := by decide +kernel
theorem dX9_of_40 : decode cX9_of 40 = .ok (.iaload, 1) := by decide +kernel
theorem dX9_of_41 : decode cX9_of 41 = .ok (.ireturn, 1) := by decide +kernel
theorem dX9_of_42 : decode cX9_of 42 = .ok (.aload_n 0, 1) := by decide +kernel
theorem dX9_of_43 : decode cX9_of 43 = .ok (.iload_n 1, 1) := by decide +kernel
theorem dX9_of_44 : decode cX9_of 44 = .ok (.invokevirtual 237, 3) := by decide +kernel
theorem dX9_of_47 : decode cX9_of 47 = .ok (.ifCond .ne 5, 3) := by decide +kernel
theorem dX9_of_50 : decode cX9_of 50 = .ok (.iconst (-1), 1) := by decide +kernel
theorem dX9_of_51 : decode cX9_of 51 = .ok (.ireturn, 1) := by decide +kernel
theorem dX9_of_52 : decode cX9_of 52 = .ok (.iload_n 2, 1) := by decide +kernel
theorem dX9_of_53 : decode cX9_of 53 = .ok (.tableswitch 83 10 14 #[35, 52, 59, 66, 73], 35) := by decide +kernel
theorem dX9_of_88 : decode cX9_of 88 = .ok (.bipush 10, 2) := by decide +kernel
theorem dX9_of_90 : decode cX9_of 90 = .ok (.aload_n 0, 1) := by decide +kernel
theorem dX9_of_91 : decode cX9_of 91 = .ok (.getfield 23, 3) := by decide +kernel
theorem dX9_of_94 : decode cX9_of 94 = .ok (.iload_n 1, 1) := by decide +kernel
theorem dX9_of_95 : decode cX9_of 95 = .ok (.iaload, 1) := by decide +kernel
theorem dX9_of_96 : decode cX9_of 96 = .ok (.imul, 1) := by decide +kernel
theorem dX9_of_97 : decode cX9_of 97 = .ok (.aload_n 0, 1) := by decide +kernel
theorem dX9_of_98 : decode cX9_of 98 = .ok (.getfield 26, 3) := by decide +kernel
theorem dX9_of_101 : decode cX9_of 101 = .ok (.iload_n 1, 1) := by decide +kernel
theorem dX9_of_102 : decode cX9_of 102 = .ok (.iaload, 1) := by decide +kernel
theorem dX9_of_103 : decode cX9_of 103 = .ok (.iadd, 1) := by decide +kernel
theorem dX9_of_104 : decode cX9_of 104 = .ok (.ireturn, 1) := by decide +kernel
theorem dX9_of_105 : decode cX9_of 105 = .ok (.aload_n 0, 1) := by decide +kernel
theorem dX9_of_106 : decode cX9_of 106 = .ok (.getfield 29, 3) := by decide +kernel
theorem dX9_of_109 : decode cX9_of 109 = .ok (.iload_n 1, 1) := by decide +kernel
theorem dX9_of_110 : decode cX9_of 110 = .ok (.iaload, 1) := by decide +kernel
theorem dX9_of_111 : decode cX9_of 111 = .ok (.ireturn, 1) := by decide +kernel
theorem dX9_of_112 : decode cX9_of 112 = .ok (.aload_n 0, 1) := by decide +kernel
theorem dX9_of_113 : decode cX9_of 113 = .ok (.getfield 32, 3) := by decide +kernel
theorem dX9_of_116 : decode cX9_of 116 = .ok (.iload_n 1, 1) := by decide +kernel
theorem dX9_of_117 : decode cX9_of 117 = .ok (.iaload, 1) := by decide +kernel
theorem dX9_of_118 : decode cX9_of 118 = .ok (.ireturn, 1) := by decide +kernel
theorem dX9_of_119 : decode cX9_of 119 = .ok (.aload_n 0, 1) := by decide +kernel
theorem dX9_of_120 : decode cX9_of 120 = .ok (.getfield 35, 3) := by decide +kernel
theorem dX9_of_123 : decode cX9_of 123 = .ok (.iload_n 1, 1) := by decide +kernel
theorem dX9_of_124 : decode cX9_of 124 = .ok (.iaload, 1) := by decide +kernel
theorem dX9_of_125 : decode cX9_of 125 = .ok (.ireturn, 1) := by decide +kernel
theorem dX9_of_126 : decode cX9_of 126 = .ok (.bipush 24, 2) := by decide +kernel
theorem dX9_of_128 : decode cX9_of 128 = .ok (.aload_n 0, 1) := by decide +kernel
theorem dX9_of_129 : decode cX9_of 129 = .ok (.getfield 29, 3) := by decide +kernel
theorem dX9_of_132 : decode cX9_of 132 = .ok (.iload_n 1, 1) := by decide +kernel
theorem dX9_of_133 : decode cX9_of 133 = .ok (.iaload, 1) := by decide +kernel
theorem dX9_of_134 : decode cX9_of 134 = .ok (.imul, 1) := by decide +kernel
theorem dX9_of_135 : decode cX9_of 135 = .ok (.ireturn, 1) := by decide +kernel
theorem dX9_of_136 : decode cX9_of 136 = .ok (.iconst (-1), 1) := by decide +kernel
theorem dX9_of_137 : decode cX9_of 137 = .ok (.ireturn, 1) := by decide +kernel
theorem dX9_change_0 : decode cX9_change 0 = .ok (.iload_n 1, 1) := by decide +kernel
theorem dX9_change_1 : decode cX9_change 1 = .ok (.ifCond .ne 13, 3) := by decide +kernel
theorem dX9_change_4 : decode cX9_change 4 = .ok (.aload_n 0, 1) := by decide +kernel
theorem dX9_change_5 : decode cX9_change 5 = .ok (.getfield 16, 3) := by decide +kernel
theorem dX9_change_8 : decode cX9_change 8 = .ok (.iload_n 2, 1) := by decide +kernel
theorem dX9_change_9 : decode cX9_change 9 = .ok (.iload_n 3, 1) := by decide +kernel
theorem dX9_change_10 : decode cX9_change 10 = .ok (.iastore, 1) := by decide +kernel
theorem dX9_change_11 : decode cX9_change 11 = .ok (.goto 25, 3) := by decide +kernel
theorem dX9_change_14 : decode cX9_change 14 = .ok (.iload_n 1, 1) := by decide +kernel
theorem dX9_change_15 : decode cX9_change 15 = .ok (.iconst 1, 1) := by decide +kernel
theorem dX9_change_16 : decode cX9_change 16 = .ok (.if_icmp .ne 13, 3) := by decide +kernel
theorem dX9_change_19 : decode cX9_change 19 = .ok (.aload_n 0, 1) := by decide +kernel
theorem dX9_change_20 : decode cX9_change 20 = .ok (.getfield 29, 3) := by decide +kernel
theorem dX9_change_23 : decode cX9_change 23 = .ok (.iload_n 2, 1) := by decide +kernel
theorem dX9_change_24 : decode cX9_change 24 = .ok (.iload_n 3, 1) := by decide +kernel
theorem dX9_change_25 : decode cX9_change 25 = .ok (.iastore, 1) := by decide +kernel
theorem dX9_change_26 : decode cX9_change 26 = .ok (.goto 10, 3) := by decide +kernel
theorem dX9_change_29 : decode cX9_change 29 = .ok (.aload_n 0, 1) := by decide +kernel
theorem dX9_change_30 : decode cX9_change 30 = .ok (.getfield 35, 3) := by decide +kernel
theorem dX9_change_33 : decode cX9_change 33 = .ok (.iload_n 2, 1) := by decide +kernel
theorem dX9_change_34 : decode cX9_change 34 = .ok (.iload_n 3, 1) := by decide +kernel
theorem dX9_change_35 : decode cX9_change 35 = .ok (.iastore, 1) := by decide +kernel
theorem dX9_change_36 : decode cX9_change 36 = .ok (.return_, 1) := by decide +kernel
theorem dX9_dropEldest_0 : decode cX9_dropEldest 0 = .ok (.iconst 1, 1) := by decide +kernel
theorem dX9_dropEldest_1 : decode cX9_dropEldest 1 = .ok (.istore_n 1, 1) := by decide +kernel
theorem dX9_dropEldest_2 : decode cX9_dropEldest 2 = .ok (.iload_n 1, 1) := by decide +kernel
theorem dX9_dropEldest_3 : decode cX9_dropEldest 3 = .ok (.bipush 40, 2) := by decide +kernel
theorem dX9_dropEldest_5 : decode cX9_dropEldest 5 = .ok (.if_icmp .ge 65, 3) := by decide +kernel
theorem dX9_dropEldest_8 : decode cX9_dropEldest 8 = .ok (.aload_n 0, 1) := by decide +kernel
theorem dX9_dropEldest_9 : decode cX9_dropEldest 9 = .ok (.getfield 65, 3) := by decide +kernel
theorem dX9_dropEldest_12 : decode cX9_dropEldest 12 = .ok (.iload_n 1, 1) := by decide +kernel
theorem dX9_dropEldest_13 : decode cX9_dropEldest 13 = .ok (.iconst 1, 1) := by decide +kernel
theorem dX9_dropEldest_14 : decode cX9_dropEldest 14 = .ok (.isub, 1) := by decide +kernel
theorem dX9_dropEldest_15 : decode cX9_dropEldest 15 = .ok (.aload_n 0, 1) := by decide +kernel
theorem dX9_dropEldest_16 : decode cX9_dropEldest 16 = .ok (.getfield 65, 3) := by decide +kernel
theorem dX9_dropEldest_19 : decode cX9_dropEldest 19 = .ok (.iload_n 1, 1) := by decide +kernel
theorem dX9_dropEldest_20 : decode cX9_dropEldest 20 = .ok (.iaload, 1) := by decide +kernel
theorem dX9_dropEldest_21 : decode cX9_dropEldest 21 = .ok (.iastore, 1) := by decide +kernel
theorem dX9_dropEldest_22 : decode cX9_dropEldest 22 = .ok (.aload_n 0, 1) := by decide +kernel
theorem dX9_dropEldest_23 : decode cX9_dropEldest 23 = .ok (.getfield 68, 3) := by decide +kernel
theorem dX9_dropEldest_26 : decode cX9_dropEldest 26 = .ok (.iload_n 1, 1) := by decide +kernel
theorem dX9_dropEldest_27 : decode cX9_dropEldest 27 = .ok (.iconst 1, 1) := by decide +kernel
theorem dX9_dropEldest_28 : decode cX9_dropEldest 28 = .ok (.isub, 1) := by decide +kernel
theorem dX9_dropEldest_29 : decode cX9_dropEldest 29 = .ok (.aload_n 0, 1) := by decide +kernel
theorem dX9_dropEldest_30 : decode cX9_dropEldest 30 = .ok (.getfield 68, 3) := by decide +kernel
theorem dX9_dropEldest_33 : decode cX9_dropEldest 33 = .ok (.iload_n 1, 1) := by decide +kernel
theorem dX9_dropEldest_34 : decode cX9_dropEldest 34 = .ok (.iaload, 1) := by decide +kernel
theorem dX9_dropEldest_35 : decode cX9_dropEldest 35 = .ok (.iastore, 1) := by decide +kernel
theorem dX9_dropEldest_36 : decode cX9_dropEldest 36 = .ok (.aload_n 0, 1) := by decide +kernel
theorem dX9_dropEldest_37 : decode cX9_dropEldest 37 = .ok (.getfield 71, 3) := by decide +kernel
theorem dX9_dropEldest_40 : decode cX9_dropEldest 40 = .ok (.iload_n 1, 1) := by decide +kernel
theorem dX9_dropEldest_41 : decode cX9_dropEldest 41 = .ok (.iconst 1, 1) := by decide +kernel
theorem dX9_dropEldest_42 : decode cX9_dropEldest 42 = .ok (.isub, 1) := by decide +kernel
theorem dX9_dropEldest_43 : decode cX9_dropEldest 43 = .ok (.aload_n 0, 1) := by decide +kernel
theorem dX9_dropEldest_44 : decode cX9_dropEldest 44 = .ok (.getfield 71, 3) := by decide +kernel
theorem dX9_dropEldest_47 : decode cX9_dropEldest 47 = .ok (.iload_n 1, 1) := by decide +kernel
theorem dX9_dropEldest_48 : decode cX9_dropEldest 48 = .ok (.iaload, 1) := by decide +kernel
theorem dX9_dropEldest_49 : decode cX9_dropEldest 49 = .ok (.iastore, 1) := by decide +kernel
theorem dX9_dropEldest_50 : decode cX9_dropEldest 50 = .ok (.aload_n 0, 1) := by decide +kernel
theorem dX9_dropEldest_51 : decode cX9_dropEldest 51 = .ok (.getfield 74, 3) := by decide +kernel
theorem dX9_dropEldest_54 : decode cX9_dropEldest 54 = .ok (.iload_n 1, 1) := by decide +kernel
theorem dX9_dropEldest_55 : decode cX9_dropEldest 55 = .ok (.iconst 1, 1) := by decide +kernel
theorem dX9_dropEldest_56 : decode cX9_dropEldest 56 = .ok (.isub, 1) := by decide +kernel
theorem dX9_dropEldest_57 : decode cX9_dropEldest 57 = .ok (.aload_n 0, 1) := by decide +kernel
theorem dX9_dropEldest_58 : decode cX9_dropEldest 58 = .ok (.getfield 74, 3) := by decide +kernel
theorem dX9_dropEldest_61 : decode cX9_dropEldest 61 = .ok (.iload_n 1, 1) := by decide +kernel
theorem dX9_dropEldest_62 : decode cX9_dropEldest 62 = .ok (.iaload, 1) := by decide +kernel
theorem dX9_dropEldest_63 : decode cX9_dropEldest 63 = .ok (.iastore, 1) := by decide +kernel
theorem dX9_dropEldest_64 : decode cX9_dropEldest 64 = .ok (.iinc 1 1, 3) := by decide +kernel
theorem dX9_dropEldest_67 : decode cX9_dropEldest 67 = .ok (.goto (-65), 3) := by decide +kernel
theorem dX9_dropEldest_70 : decode cX9_dropEldest 70 = .ok (.aload_n 0, 1) := by decide +kernel
theorem dX9_dropEldest_71 : decode cX9_dropEldest 71 = .ok (.dup, 1) := by decide +kernel
theorem dX9_dropEldest_72 : decode cX9_dropEldest 72 = .ok (.getfield 62, 3) := by decide +kernel
theorem dX9_dropEldest_75 : decode cX9_dropEldest 75 = .ok (.iconst 1, 1) := by decide +kernel
theorem dX9_dropEldest_76 : decode cX9_dropEldest 76 = .ok (.isub, 1) := by decide +kernel
theorem dX9_dropEldest_77 : decode cX9_dropEldest 77 = .ok (.putfield 62, 3) := by decide +kernel
theorem dX9_dropEldest_80 : decode cX9_dropEldest 80 = .ok (.return_, 1) := by decide +kernel
