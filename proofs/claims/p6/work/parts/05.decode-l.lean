theorem d_L_law_0 : decode code 0 = .ok (.new 7, 3) := by decide +kernel
theorem d_L_law_3 : decode code 3 = .ok (.dup, 1) := by decide +kernel
theorem d_L_law_4 : decode code 4 = .ok (.invokespecial 9, 3) := by decide +kernel
theorem d_L_law_7 : decode code 7 = .ok (.astore_n 1, 1) := by decide +kernel
theorem d_L_law_8 : decode code 8 = .ok (.new 10, 3) := by decide +kernel
theorem d_L_law_11 : decode code 11 = .ok (.dup, 1) := by decide +kernel
theorem d_L_law_12 : decode code 12 = .ok (.invokespecial 12, 3) := by decide +kernel
theorem d_L_law_15 : decode code 15 = .ok (.astore_n 2, 1) := by decide +kernel
theorem d_L_law_16 : decode code 16 = .ok (.iconst 0, 1) := by decide +kernel
theorem d_L_law_17 : decode code 17 = .ok (.istore_n 3, 1) := by decide +kernel
theorem d_L_law_18 : decode code 18 = .ok (.iload_n 3, 1) := by decide +kernel
theorem d_L_law_19 : decode code 19 = .ok (.aload_n 0, 1) := by decide +kernel
theorem d_L_law_20 : decode code 20 = .ok (.arraylength, 1) := by decide +kernel
theorem d_L_law_21 : decode code 21 = .ok (.iconst 4, 1) := by decide +kernel
theorem d_L_law_22 : decode code 22 = .ok (.isub, 1) := by decide +kernel
theorem d_L_law_23 : decode code 23 = .ok (.if_icmp .gt 518, 3) := by decide +kernel
theorem d_L_law_26 : decode code 26 = .ok (.aload_n 0, 1) := by decide +kernel
theorem d_L_law_27 : decode code 27 = .ok (.iload_n 3, 1) := by decide +kernel
theorem d_L_law_28 : decode code 28 = .ok (.iaload, 1) := by decide +kernel
theorem d_L_law_29 : decode code 29 = .ok (.bipush 15, 2) := by decide +kernel
theorem d_L_law_31 : decode code 31 = .ok (.iand, 1) := by decide +kernel
theorem d_L_law_32 : decode code 32 = .ok (.tableswitch 503 0 13 #[72, 125, 138, 149, 162, 186, 239, 252, 285, 308, 331, 394, 457, 480], 72) := by decide +kernel
theorem d_L_law_104 : decode code 104 = .ok (.aload_n 1, 1) := by decide +kernel
theorem d_L_law_105 : decode code 105 = .ok (.aload_n 0, 1) := by decide +kernel
theorem d_L_law_106 : decode code 106 = .ok (.iload_n 3, 1) := by decide +kernel
theorem d_L_law_107 : decode code 107 = .ok (.iconst 1, 1) := by decide +kernel
theorem d_L_law_108 : decode code 108 = .ok (.iadd, 1) := by decide +kernel
theorem d_L_law_109 : decode code 109 = .ok (.iaload, 1) := by decide +kernel
theorem d_L_law_110 : decode code 110 = .ok (.i2l, 1) := by decide +kernel
theorem d_L_law_111 : decode code 111 = .ok (.bipush 32, 2) := by decide +kernel
theorem d_L_law_113 : decode code 113 = .ok (.lshl, 1) := by decide +kernel
theorem d_L_law_114 : decode code 114 = .ok (.aload_n 0, 1) := by decide +kernel
theorem d_L_law_115 : decode code 115 = .ok (.iload_n 3, 1) := by decide +kernel
theorem d_L_law_116 : decode code 116 = .ok (.iconst 2, 1) := by decide +kernel
theorem d_L_law_117 : decode code 117 = .ok (.iadd, 1) := by decide +kernel
theorem d_L_law_118 : decode code 118 = .ok (.iaload, 1) := by decide +kernel
theorem d_L_law_119 : decode code 119 = .ok (.i2l, 1) := by decide +kernel
theorem d_L_law_120 : decode code 120 = .ok (.ldc2_w 13, 3) := by decide +kernel
theorem d_L_law_123 : decode code 123 = .ok (.land, 1) := by decide +kernel
theorem d_L_law_124 : decode code 124 = .ok (.lor, 1) := by decide +kernel
theorem d_L_law_125 : decode code 125 = .ok (.invokevirtual 15, 3) := by decide +kernel
theorem d_L_law_128 : decode code 128 = .ok (.pop, 1) := by decide +kernel
theorem d_L_law_129 : decode code 129 = .ok (.aload_n 2, 1) := by decide +kernel
theorem d_L_law_130 : decode code 130 = .ok (.aload_n 0, 1) := by decide +kernel
theorem d_L_law_131 : decode code 131 = .ok (.iload_n 3, 1) := by decide +kernel
theorem d_L_law_132 : decode code 132 = .ok (.iconst 1, 1) := by decide +kernel
theorem d_L_law_133 : decode code 133 = .ok (.iadd, 1) := by decide +kernel
theorem d_L_law_134 : decode code 134 = .ok (.iaload, 1) := by decide +kernel
theorem d_L_law_135 : decode code 135 = .ok (.i2l, 1) := by decide +kernel
theorem d_L_law_136 : decode code 136 = .ok (.bipush 32, 2) := by decide +kernel
theorem d_L_law_138 : decode code 138 = .ok (.lshl, 1) := by decide +kernel
theorem d_L_law_139 : decode code 139 = .ok (.aload_n 0, 1) := by decide +kernel
theorem d_L_law_140 : decode code 140 = .ok (.iload_n 3, 1) := by decide +kernel
theorem d_L_law_141 : decode code 141 = .ok (.iconst 2, 1) := by decide +kernel
theorem d_L_law_142 : decode code 142 = .ok (.iadd, 1) := by decide +kernel
theorem d_L_law_143 : decode code 143 = .ok (.iaload, 1) := by decide +kernel
theorem d_L_law_144 : decode code 144 = .ok (.i2l, 1) := by decide +kernel
theorem d_L_law_145 : decode code 145 = .ok (.ldc2_w 13, 3) := by decide +kernel
theorem d_L_law_148 : decode code 148 = .ok (.land, 1) := by decide +kernel
theorem d_L_law_149 : decode code 149 = .ok (.lor, 1) := by decide +kernel
theorem d_L_law_150 : decode code 150 = .ok (.invokevirtual 19, 3) := by decide +kernel
theorem d_L_law_153 : decode code 153 = .ok (.pop, 1) := by decide +kernel
theorem d_L_law_154 : decode code 154 = .ok (.goto 381, 3) := by decide +kernel
theorem d_L_law_157 : decode code 157 = .ok (.aload_n 1, 1) := by decide +kernel
theorem d_L_law_158 : decode code 158 = .ok (.invokevirtual 20, 3) := by decide +kernel
theorem d_L_law_161 : decode code 161 = .ok (.pop, 1) := by decide +kernel
theorem d_L_law_162 : decode code 162 = .ok (.aload_n 2, 1) := by decide +kernel
theorem d_L_law_163 : decode code 163 = .ok (.invokevirtual 24, 3) := by decide +kernel
theorem d_L_law_166 : decode code 166 = .ok (.pop, 1) := by decide +kernel
theorem d_L_law_167 : decode code 167 = .ok (.goto 368, 3) := by decide +kernel
theorem d_L_law_170 : decode code 170 = .ok (.aload_n 1, 1) := by decide +kernel
theorem d_L_law_171 : decode code 171 = .ok (.invokevirtual 25, 3) := by decide +kernel
theorem d_L_law_174 : decode code 174 = .ok (.aload_n 2, 1) := by decide +kernel
theorem d_L_law_175 : decode code 175 = .ok (.invokevirtual 28, 3) := by decide +kernel
theorem d_L_law_178 : decode code 178 = .ok (.goto 357, 3) := by decide +kernel
theorem d_L_law_181 : decode code 181 = .ok (.aload_n 1, 1) := by decide +kernel
theorem d_L_law_182 : decode code 182 = .ok (.invokevirtual 29, 3) := by decide +kernel
theorem d_L_law_185 : decode code 185 = .ok (.pop, 1) := by decide +kernel
theorem d_L_law_186 : decode code 186 = .ok (.aload_n 2, 1) := by decide +kernel
theorem d_L_law_187 : decode code 187 = .ok (.invokevirtual 33, 3) := by decide +kernel
theorem d_L_law_190 : decode code 190 = .ok (.pop, 1) := by decide +kernel
theorem d_L_law_191 : decode code 191 = .ok (.goto 344, 3) := by decide +kernel
theorem d_L_law_194 : decode code 194 = .ok (.aload_n 1, 1) := by decide +kernel
theorem d_L_law_195 : decode code 195 = .ok (.aload_n 0, 1) := by decide +kernel
theorem d_L_law_196 : decode code 196 = .ok (.iload_n 3, 1) := by decide +kernel
theorem d_L_law_197 : decode code 197 = .ok (.iconst 1, 1) := by decide +kernel
theorem d_L_law_198 : decode code 198 = .ok (.iadd, 1) := by decide +kernel
theorem d_L_law_199 : decode code 199 = .ok (.iaload, 1) := by decide +kernel
theorem d_L_law_200 : decode code 200 = .ok (.invokevirtual 34, 3) := by decide +kernel
theorem d_L_law_203 : decode code 203 = .ok (.aload_n 2, 1) := by decide +kernel
theorem d_L_law_204 : decode code 204 = .ok (.aload_n 0, 1) := by decide +kernel
theorem d_L_law_205 : decode code 205 = .ok (.iload_n 3, 1) := by decide +kernel
theorem d_L_law_206 : decode code 206 = .ok (.iconst 1, 1) := by decide +kernel
theorem d_L_law_207 : decode code 207 = .ok (.iadd, 1) := by decide +kernel
theorem d_L_law_208 : decode code 208 = .ok (.iaload, 1) := by decide +kernel
theorem d_L_law_209 : decode code 209 = .ok (.invokevirtual 38, 3) := by decide +kernel
theorem d_L_law_212 : decode code 212 = .ok (.lcmp, 1) := by decide +kernel
theorem d_L_law_213 : decode code 213 = .ok (.ifCond .eq 322, 3) := by decide +kernel
theorem d_L_law_216 : decode code 216 = .ok (.iconst 0, 1) := by decide +kernel
theorem d_L_law_217 : decode code 217 = .ok (.ireturn, 1) := by decide +kernel
theorem d_L_law_218 : decode code 218 = .ok (.aload_n 1, 1) := by decide +kernel
theorem d_L_law_219 : decode code 219 = .ok (.aload_n 0, 1) := by decide +kernel
theorem d_L_law_220 : decode code 220 = .ok (.iload_n 3, 1) := by decide +kernel
theorem d_L_law_221 : decode code 221 = .ok (.iconst 1, 1) := by decide +kernel
theorem d_L_law_222 : decode code 222 = .ok (.iadd, 1) := by decide +kernel
theorem d_L_law_223 : decode code 223 = .ok (.iaload, 1) := by decide +kernel
theorem d_L_law_224 : decode code 224 = .ok (.i2l, 1) := by decide +kernel
theorem d_L_law_225 : decode code 225 = .ok (.bipush 32, 2) := by decide +kernel
theorem d_L_law_227 : decode code 227 = .ok (.lshl, 1) := by decide +kernel
theorem d_L_law_228 : decode code 228 = .ok (.aload_n 0, 1) := by decide +kernel
theorem d_L_law_229 : decode code 229 = .ok (.iload_n 3, 1) := by decide +kernel
theorem d_L_law_230 : decode code 230 = .ok (.iconst 2, 1) := by decide +kernel
theorem d_L_law_231 : decode code 231 = .ok (.iadd, 1) := by decide +kernel
theorem d_L_law_232 : decode code 232 = .ok (.iaload, 1) := by decide +kernel
theorem d_L_law_233 : decode code 233 = .ok (.i2l, 1) := by decide +kernel
theorem d_L_law_234 : decode code 234 = .ok (.ldc2_w 13, 3) := by decide +kernel
theorem d_L_law_237 : decode code 237 = .ok (.land, 1) := by decide +kernel
theorem d_L_law_238 : decode code 238 = .ok (.lor, 1) := by decide +kernel
theorem d_L_law_239 : decode code 239 = .ok (.invokevirtual 39, 3) := by decide +kernel
theorem d_L_law_242 : decode code 242 = .ok (.pop, 1) := by decide +kernel
theorem d_L_law_243 : decode code 243 = .ok (.aload_n 2, 1) := by decide +kernel
theorem d_L_law_244 : decode code 244 = .ok (.aload_n 0, 1) := by decide +kernel
theorem d_L_law_245 : decode code 245 = .ok (.iload_n 3, 1) := by decide +kernel
theorem d_L_law_246 : decode code 246 = .ok (.iconst 1, 1) := by decide +kernel
theorem d_L_law_247 : decode code 247 = .ok (.iadd, 1) := by decide +kernel
theorem d_L_law_248 : decode code 248 = .ok (.iaload, 1) := by decide +kernel
theorem d_L_law_249 : decode code 249 = .ok (.i2l, 1) := by decide +kernel
theorem d_L_law_250 : decode code 250 = .ok (.bipush 32, 2) := by decide +kernel
theorem d_L_law_252 : decode code 252 = .ok (.lshl, 1) := by decide +kernel
theorem d_L_law_253 : decode code 253 = .ok (.aload_n 0, 1) := by decide +kernel
theorem d_L_law_254 : decode code 254 = .ok (.iload_n 3, 1) := by decide +kernel
theorem d_L_law_255 : decode code 255 = .ok (.iconst 2, 1) := by decide +kernel
theorem d_L_law_256 : decode code 256 = .ok (.iadd, 1) := by decide +kernel
theorem d_L_law_257 : decode code 257 = .ok (.iaload, 1) := by decide +kernel
theorem d_L_law_258 : decode code 258 = .ok (.i2l, 1) := by decide +kernel
theorem d_L_law_259 : decode code 259 = .ok (.ldc2_w 13, 3) := by decide +kernel
theorem d_L_law_262 : decode code 262 = .ok (.land, 1) := by decide +kernel
theorem d_L_law_263 : decode code 263 = .ok (.lor, 1) := by decide +kernel
theorem d_L_law_264 : decode code 264 = .ok (.invokevirtual 42, 3) := by decide +kernel
theorem d_L_law_267 : decode code 267 = .ok (.pop, 1) := by decide +kernel
theorem d_L_law_268 : decode code 268 = .ok (.goto 267, 3) := by decide +kernel
theorem d_L_law_271 : decode code 271 = .ok (.aload_n 1, 1) := by decide +kernel
theorem d_L_law_272 : decode code 272 = .ok (.invokevirtual 43, 3) := by decide +kernel
theorem d_L_law_275 : decode code 275 = .ok (.pop, 1) := by decide +kernel
theorem d_L_law_276 : decode code 276 = .ok (.aload_n 2, 1) := by decide +kernel
theorem d_L_law_277 : decode code 277 = .ok (.invokevirtual 46, 3) := by decide +kernel
theorem d_L_law_280 : decode code 280 = .ok (.pop, 1) := by decide +kernel
theorem d_L_law_281 : decode code 281 = .ok (.goto 254, 3) := by decide +kernel
theorem d_L_law_284 : decode code 284 = .ok (.aload_n 1, 1) := by decide +kernel
theorem d_L_law_285 : decode code 285 = .ok (.aload_n 0, 1) := by decide +kernel
theorem d_L_law_286 : decode code 286 = .ok (.iload_n 3, 1) := by decide +kernel
theorem d_L_law_287 : decode code 287 = .ok (.iconst 1, 1) := by decide +kernel
theorem d_L_law_288 : decode code 288 = .ok (.iadd, 1) := by decide +kernel
theorem d_L_law_289 : decode code 289 = .ok (.iaload, 1) := by decide +kernel
theorem d_L_law_290 : decode code 290 = .ok (.aload_n 0, 1) := by decide +kernel
theorem d_L_law_291 : decode code 291 = .ok (.iload_n 3, 1) := by decide +kernel
theorem d_L_law_292 : decode code 292 = .ok (.iconst 2, 1) := by decide +kernel
theorem d_L_law_293 : decode code 293 = .ok (.iadd, 1) := by decide +kernel
theorem d_L_law_294 : decode code 294 = .ok (.iaload, 1) := by decide +kernel
theorem d_L_law_295 : decode code 295 = .ok (.invokevirtual 47, 3) := by decide +kernel
theorem d_L_law_298 : decode code 298 = .ok (.pop, 1) := by decide +kernel
theorem d_L_law_299 : decode code 299 = .ok (.aload_n 2, 1) := by decide +kernel
theorem d_L_law_300 : decode code 300 = .ok (.aload_n 0, 1) := by decide +kernel
theorem d_L_law_301 : decode code 301 = .ok (.iload_n 3, 1) := by decide +kernel
theorem d_L_law_302 : decode code 302 = .ok (.iconst 1, 1) := by decide +kernel
theorem d_L_law_303 : decode code 303 = .ok (.iadd, 1) := by decide +kernel
theorem d_L_law_304 : decode code 304 = .ok (.iaload, 1) := by decide +kernel
theorem d_L_law_305 : decode code 305 = .ok (.aload_n 0, 1) := by decide +kernel
theorem d_L_law_306 : decode code 306 = .ok (.iload_n 3, 1) := by decide +kernel
theorem d_L_law_307 : decode code 307 = .ok (.iconst 2, 1) := by decide +kernel
theorem d_L_law_308 : decode code 308 = .ok (.iadd, 1) := by decide +kernel
theorem d_L_law_309 : decode code 309 = .ok (.iaload, 1) := by decide +kernel
theorem d_L_law_310 : decode code 310 = .ok (.invokevirtual 51, 3) := by decide +kernel
theorem d_L_law_313 : decode code 313 = .ok (.pop, 1) := by decide +kernel
theorem d_L_law_314 : decode code 314 = .ok (.goto 221, 3) := by decide +kernel
theorem d_L_law_317 : decode code 317 = .ok (.aload_n 1, 1) := by decide +kernel
theorem d_L_law_318 : decode code 318 = .ok (.aload_n 0, 1) := by decide +kernel
theorem d_L_law_319 : decode code 319 = .ok (.iload_n 3, 1) := by decide +kernel
theorem d_L_law_320 : decode code 320 = .ok (.iconst 1, 1) := by decide +kernel
theorem d_L_law_321 : decode code 321 = .ok (.iadd, 1) := by decide +kernel
theorem d_L_law_322 : decode code 322 = .ok (.iaload, 1) := by decide +kernel
theorem d_L_law_323 : decode code 323 = .ok (.invokevirtual 52, 3) := by decide +kernel
theorem d_L_law_326 : decode code 326 = .ok (.pop, 1) := by decide +kernel
theorem d_L_law_327 : decode code 327 = .ok (.aload_n 2, 1) := by decide +kernel
theorem d_L_law_328 : decode code 328 = .ok (.aload_n 0, 1) := by decide +kernel
theorem d_L_law_329 : decode code 329 = .ok (.iload_n 3, 1) := by decide +kernel
theorem d_L_law_330 : decode code 330 = .ok (.iconst 1, 1) := by decide +kernel
theorem d_L_law_331 : decode code 331 = .ok (.iadd, 1) := by decide +kernel
theorem d_L_law_332 : decode code 332 = .ok (.iaload, 1) := by decide +kernel
theorem d_L_law_333 : decode code 333 = .ok (.invokevirtual 56, 3) := by decide +kernel
theorem d_L_law_336 : decode code 336 = .ok (.pop, 1) := by decide +kernel
theorem d_L_law_337 : decode code 337 = .ok (.goto 198, 3) := by decide +kernel
theorem d_L_law_340 : decode code 340 = .ok (.aload_n 1, 1) := by decide +kernel
theorem d_L_law_341 : decode code 341 = .ok (.aload_n 0, 1) := by decide +kernel
theorem d_L_law_342 : decode code 342 = .ok (.iload_n 3, 1) := by decide +kernel
theorem d_L_law_343 : decode code 343 = .ok (.iconst 1, 1) := by decide +kernel
theorem d_L_law_344 : decode code 344 = .ok (.iadd, 1) := by decide +kernel
theorem d_L_law_345 : decode code 345 = .ok (.iaload, 1) := by decide +kernel
theorem d_L_law_346 : decode code 346 = .ok (.invokevirtual 57, 3) := by decide +kernel
theorem d_L_law_349 : decode code 349 = .ok (.pop, 1) := by decide +kernel
theorem d_L_law_350 : decode code 350 = .ok (.aload_n 2, 1) := by decide +kernel
theorem d_L_law_351 : decode code 351 = .ok (.aload_n 0, 1) := by decide +kernel
theorem d_L_law_352 : decode code 352 = .ok (.iload_n 3, 1) := by decide +kernel
theorem d_L_law_353 : decode code 353 = .ok (.iconst 1, 1) := by decide +kernel
theorem d_L_law_354 : decode code 354 = .ok (.iadd, 1) := by decide +kernel
theorem d_L_law_355 : decode code 355 = .ok (.iaload, 1) := by decide +kernel
theorem d_L_law_356 : decode code 356 = .ok (.invokevirtual 61, 3) := by decide +kernel
theorem d_L_law_359 : decode code 359 = .ok (.pop, 1) := by decide +kernel
theorem d_L_law_360 : decode code 360 = .ok (.goto 175, 3) := by decide +kernel
theorem d_L_law_363 : decode code 363 = .ok (.aload_n 1, 1) := by decide +kernel
theorem d_L_law_364 : decode code 364 = .ok (.aload_n 0, 1) := by decide +kernel
theorem d_L_law_365 : decode code 365 = .ok (.iload_n 3, 1) := by decide +kernel
theorem d_L_law_366 : decode code 366 = .ok (.iconst 1, 1) := by decide +kernel
theorem d_L_law_367 : decode code 367 = .ok (.iadd, 1) := by decide +kernel
theorem d_L_law_368 : decode code 368 = .ok (.iaload, 1) := by decide +kernel
theorem d_L_law_369 : decode code 369 = .ok (.i2l, 1) := by decide +kernel
theorem d_L_law_370 : decode code 370 = .ok (.bipush 32, 2) := by decide +kernel
theorem d_L_law_372 : decode code 372 = .ok (.lshl, 1) := by decide +kernel
theorem d_L_law_373 : decode code 373 = .ok (.aload_n 0, 1) := by decide +kernel
theorem d_L_law_374 : decode code 374 = .ok (.iload_n 3, 1) := by decide +kernel
theorem d_L_law_375 : decode code 375 = .ok (.iconst 2, 1) := by decide +kernel
theorem d_L_law_376 : decode code 376 = .ok (.iadd, 1) := by decide +kernel
theorem d_L_law_377 : decode code 377 = .ok (.iaload, 1) := by decide +kernel
theorem d_L_law_378 : decode code 378 = .ok (.i2l, 1) := by decide +kernel
theorem d_L_law_379 : decode code 379 = .ok (.ldc2_w 13, 3) := by decide +kernel
theorem d_L_law_382 : decode code 382 = .ok (.land, 1) := by decide +kernel
theorem d_L_law_383 : decode code 383 = .ok (.lor, 1) := by decide +kernel
theorem d_L_law_384 : decode code 384 = .ok (.aload_n 0, 1) := by decide +kernel
theorem d_L_law_385 : decode code 385 = .ok (.iload_n 3, 1) := by decide +kernel
theorem d_L_law_386 : decode code 386 = .ok (.iconst 3, 1) := by decide +kernel
theorem d_L_law_387 : decode code 387 = .ok (.iadd, 1) := by decide +kernel
theorem d_L_law_388 : decode code 388 = .ok (.iaload, 1) := by decide +kernel
theorem d_L_law_389 : decode code 389 = .ok (.invokevirtual 62, 3) := by decide +kernel
theorem d_L_law_392 : decode code 392 = .ok (.pop, 1) := by decide +kernel
theorem d_L_law_393 : decode code 393 = .ok (.aload_n 2, 1) := by decide +kernel
theorem d_L_law_394 : decode code 394 = .ok (.aload_n 0, 1) := by decide +kernel
theorem d_L_law_395 : decode code 395 = .ok (.iload_n 3, 1) := by decide +kernel
theorem d_L_law_396 : decode code 396 = .ok (.iconst 1, 1) := by decide +kernel
theorem d_L_law_397 : decode code 397 = .ok (.iadd, 1) := by decide +kernel
theorem d_L_law_398 : decode code 398 = .ok (.iaload, 1) := by decide +kernel
theorem d_L_law_399 : decode code 399 = .ok (.i2l, 1) := by decide +kernel
theorem d_L_law_400 : decode code 400 = .ok (.bipush 32, 2) := by decide +kernel
theorem d_L_law_402 : decode code 402 = .ok (.lshl, 1) := by decide +kernel
theorem d_L_law_403 : decode code 403 = .ok (.aload_n 0, 1) := by decide +kernel
theorem d_L_law_404 : decode code 404 = .ok (.iload_n 3, 1) := by decide +kernel
theorem d_L_law_405 : decode code 405 = .ok (.iconst 2, 1) := by decide +kernel
theorem d_L_law_406 : decode code 406 = .ok (.iadd, 1) := by decide +kernel
theorem d_L_law_407 : decode code 407 = .ok (.iaload, 1) := by decide +kernel
theorem d_L_law_408 : decode code 408 = .ok (.i2l, 1) := by decide +kernel
theorem d_L_law_409 : decode code 409 = .ok (.ldc2_w 13, 3) := by decide +kernel
theorem d_L_law_412 : decode code 412 = .ok (.land, 1) := by decide +kernel
theorem d_L_law_413 : decode code 413 = .ok (.lor, 1) := by decide +kernel
theorem d_L_law_414 : decode code 414 = .ok (.aload_n 0, 1) := by decide +kernel
theorem d_L_law_415 : decode code 415 = .ok (.iload_n 3, 1) := by decide +kernel
theorem d_L_law_416 : decode code 416 = .ok (.iconst 3, 1) := by decide +kernel
theorem d_L_law_417 : decode code 417 = .ok (.iadd, 1) := by decide +kernel
theorem d_L_law_418 : decode code 418 = .ok (.iaload, 1) := by decide +kernel
theorem d_L_law_419 : decode code 419 = .ok (.invokevirtual 66, 3) := by decide +kernel
theorem d_L_law_422 : decode code 422 = .ok (.pop, 1) := by decide +kernel
theorem d_L_law_423 : decode code 423 = .ok (.goto 112, 3) := by decide +kernel
theorem d_L_law_426 : decode code 426 = .ok (.aload_n 1, 1) := by decide +kernel
theorem d_L_law_427 : decode code 427 = .ok (.aload_n 0, 1) := by decide +kernel
theorem d_L_law_428 : decode code 428 = .ok (.iload_n 3, 1) := by decide +kernel
theorem d_L_law_429 : decode code 429 = .ok (.iconst 1, 1) := by decide +kernel
theorem d_L_law_430 : decode code 430 = .ok (.iadd, 1) := by decide +kernel
theorem d_L_law_431 : decode code 431 = .ok (.iaload, 1) := by decide +kernel
theorem d_L_law_432 : decode code 432 = .ok (.i2l, 1) := by decide +kernel
theorem d_L_law_433 : decode code 433 = .ok (.bipush 32, 2) := by decide +kernel
theorem d_L_law_435 : decode code 435 = .ok (.lshl, 1) := by decide +kernel
theorem d_L_law_436 : decode code 436 = .ok (.aload_n 0, 1) := by decide +kernel
theorem d_L_law_437 : decode code 437 = .ok (.iload_n 3, 1) := by decide +kernel
theorem d_L_law_438 : decode code 438 = .ok (.iconst 2, 1) := by decide +kernel
theorem d_L_law_439 : decode code 439 = .ok (.iadd, 1) := by decide +kernel
theorem d_L_law_440 : decode code 440 = .ok (.iaload, 1) := by decide +kernel
theorem d_L_law_441 : decode code 441 = .ok (.i2l, 1) := by decide +kernel
theorem d_L_law_442 : decode code 442 = .ok (.ldc2_w 13, 3) := by decide +kernel
theorem d_L_law_445 : decode code 445 = .ok (.land, 1) := by decide +kernel
theorem d_L_law_446 : decode code 446 = .ok (.lor, 1) := by decide +kernel
theorem d_L_law_447 : decode code 447 = .ok (.aload_n 0, 1) := by decide +kernel
theorem d_L_law_448 : decode code 448 = .ok (.iload_n 3, 1) := by decide +kernel
theorem d_L_law_449 : decode code 449 = .ok (.iconst 3, 1) := by decide +kernel
theorem d_L_law_450 : decode code 450 = .ok (.iadd, 1) := by decide +kernel
theorem d_L_law_451 : decode code 451 = .ok (.iaload, 1) := by decide +kernel
theorem d_L_law_452 : decode code 452 = .ok (.invokevirtual 67, 3) := by decide +kernel
theorem d_L_law_455 : decode code 455 = .ok (.pop, 1) := by decide +kernel
theorem d_L_law_456 : decode code 456 = .ok (.aload_n 2, 1) := by decide +kernel
theorem d_L_law_457 : decode code 457 = .ok (.aload_n 0, 1) := by decide +kernel
theorem d_L_law_458 : decode code 458 = .ok (.iload_n 3, 1) := by decide +kernel
theorem d_L_law_459 : decode code 459 = .ok (.iconst 1, 1) := by decide +kernel
theorem d_L_law_460 : decode code 460 = .ok (.iadd, 1) := by decide +kernel
theorem d_L_law_461 : decode code 461 = .ok (.iaload, 1) := by decide +kernel
theorem d_L_law_462 : decode code 462 = .ok (.i2l, 1) := by decide +kernel
theorem d_L_law_463 : decode code 463 = .ok (.bipush 32, 2) := by decide +kernel
theorem d_L_law_465 : decode code 465 = .ok (.lshl, 1) := by decide +kernel
theorem d_L_law_466 : decode code 466 = .ok (.aload_n 0, 1) := by decide +kernel
theorem d_L_law_467 : decode code 467 = .ok (.iload_n 3, 1) := by decide +kernel
theorem d_L_law_468 : decode code 468 = .ok (.iconst 2, 1) := by decide +kernel
theorem d_L_law_469 : decode code 469 = .ok (.iadd, 1) := by decide +kernel
theorem d_L_law_470 : decode code 470 = .ok (.iaload, 1) := by decide +kernel
theorem d_L_law_471 : decode code 471 = .ok (.i2l, 1) := by decide +kernel
theorem d_L_law_472 : decode code 472 = .ok (.ldc2_w 13, 3) := by decide +kernel
theorem d_L_law_475 : decode code 475 = .ok (.land, 1) := by decide +kernel
theorem d_L_law_476 : decode code 476 = .ok (.lor, 1) := by decide +kernel
theorem d_L_law_477 : decode code 477 = .ok (.aload_n 0, 1) := by decide +kernel
theorem d_L_law_478 : decode code 478 = .ok (.iload_n 3, 1) := by decide +kernel
theorem d_L_law_479 : decode code 479 = .ok (.iconst 3, 1) := by decide +kernel
theorem d_L_law_480 : decode code 480 = .ok (.iadd, 1) := by decide +kernel
theorem d_L_law_481 : decode code 481 = .ok (.iaload, 1) := by decide +kernel
theorem d_L_law_482 : decode code 482 = .ok (.invokevirtual 70, 3) := by decide +kernel
theorem d_L_law_485 : decode code 485 = .ok (.pop, 1) := by decide +kernel
theorem d_L_law_486 : decode code 486 = .ok (.goto 49, 3) := by decide +kernel
theorem d_L_law_489 : decode code 489 = .ok (.aload_n 1, 1) := by decide +kernel
theorem d_L_law_490 : decode code 490 = .ok (.aload_n 0, 1) := by decide +kernel
theorem d_L_law_491 : decode code 491 = .ok (.iload_n 3, 1) := by decide +kernel
theorem d_L_law_492 : decode code 492 = .ok (.iconst 1, 1) := by decide +kernel
theorem d_L_law_493 : decode code 493 = .ok (.iadd, 1) := by decide +kernel
theorem d_L_law_494 : decode code 494 = .ok (.iaload, 1) := by decide +kernel
theorem d_L_law_495 : decode code 495 = .ok (.invokevirtual 71, 3) := by decide +kernel
theorem d_L_law_498 : decode code 498 = .ok (.pop, 1) := by decide +kernel
theorem d_L_law_499 : decode code 499 = .ok (.aload_n 2, 1) := by decide +kernel
theorem d_L_law_500 : decode code 500 = .ok (.aload_n 0, 1) := by decide +kernel
theorem d_L_law_501 : decode code 501 = .ok (.iload_n 3, 1) := by decide +kernel
theorem d_L_law_502 : decode code 502 = .ok (.iconst 1, 1) := by decide +kernel
theorem d_L_law_503 : decode code 503 = .ok (.iadd, 1) := by decide +kernel
theorem d_L_law_504 : decode code 504 = .ok (.iaload, 1) := by decide +kernel
theorem d_L_law_505 : decode code 505 = .ok (.invokevirtual 74, 3) := by decide +kernel
theorem d_L_law_508 : decode code 508 = .ok (.pop, 1) := by decide +kernel
theorem d_L_law_509 : decode code 509 = .ok (.goto 26, 3) := by decide +kernel
theorem d_L_law_512 : decode code 512 = .ok (.aload_n 1, 1) := by decide +kernel
theorem d_L_law_513 : decode code 513 = .ok (.aload_n 0, 1) := by decide +kernel
theorem d_L_law_514 : decode code 514 = .ok (.iload_n 3, 1) := by decide +kernel
theorem d_L_law_515 : decode code 515 = .ok (.iconst 1, 1) := by decide +kernel
theorem d_L_law_516 : decode code 516 = .ok (.iadd, 1) := by decide +kernel
theorem d_L_law_517 : decode code 517 = .ok (.iaload, 1) := by decide +kernel
theorem d_L_law_518 : decode code 518 = .ok (.invokevirtual 75, 3) := by decide +kernel
theorem d_L_law_521 : decode code 521 = .ok (.pop, 1) := by decide +kernel
theorem d_L_law_522 : decode code 522 = .ok (.aload_n 2, 1) := by decide +kernel
theorem d_L_law_523 : decode code 523 = .ok (.aload_n 0, 1) := by decide +kernel
theorem d_L_law_524 : decode code 524 = .ok (.iload_n 3, 1) := by decide +kernel
theorem d_L_law_525 : decode code 525 = .ok (.iconst 1, 1) := by decide +kernel
theorem d_L_law_526 : decode code 526 = .ok (.iadd, 1) := by decide +kernel
theorem d_L_law_527 : decode code 527 = .ok (.iaload, 1) := by decide +kernel
theorem d_L_law_528 : decode code 528 = .ok (.invokevirtual 78, 3) := by decide +kernel
theorem d_L_law_531 : decode code 531 = .ok (.pop, 1) := by decide +kernel
theorem d_L_law_532 : decode code 532 = .ok (.goto 3, 3) := by decide +kernel
theorem d_L_law_535 : decode code 535 = .ok (.iinc 3 4, 3) := by decide +kernel
theorem d_L_law_538 : decode code 538 = .ok (.goto (-520), 3) := by decide +kernel
theorem d_L_law_541 : decode code 541 = .ok (.iconst 1, 1) := by decide +kernel
theorem d_L_law_542 : decode code 542 = .ok (.ireturn, 1) := by decide +kernel
