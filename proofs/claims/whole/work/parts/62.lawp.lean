theorem dLaw_law_0 : decode code 0 = .ok (.new 8, 3) := by decide +kernel
theorem dLaw_law_3 : decode code 3 = .ok (.dup, 1) := by decide +kernel
theorem dLaw_law_4 : decode code 4 = .ok (.invokespecial 39, 3) := by decide +kernel
theorem dLaw_law_7 : decode code 7 = .ok (.astore_n 1, 1) := by decide +kernel
theorem dLaw_law_8 : decode code 8 = .ok (.new 40, 3) := by decide +kernel
theorem dLaw_law_11 : decode code 11 = .ok (.dup, 1) := by decide +kernel
theorem dLaw_law_12 : decode code 12 = .ok (.invokespecial 42, 3) := by decide +kernel
theorem dLaw_law_15 : decode code 15 = .ok (.astore_n 2, 1) := by decide +kernel
theorem dLaw_law_16 : decode code 16 = .ok (.iconst 1, 1) := by decide +kernel
theorem dLaw_law_17 : decode code 17 = .ok (.newarray .long, 2) := by decide +kernel
theorem dLaw_law_19 : decode code 19 = .ok (.astore_n 3, 1) := by decide +kernel
theorem dLaw_law_20 : decode code 20 = .ok (.iconst 0, 1) := by decide +kernel
theorem dLaw_law_21 : decode code 21 = .ok (.istore 4, 2) := by decide +kernel
theorem dLaw_law_23 : decode code 23 = .ok (.iload 4, 2) := by decide +kernel
theorem dLaw_law_25 : decode code 25 = .ok (.aload_n 0, 1) := by decide +kernel
theorem dLaw_law_26 : decode code 26 = .ok (.arraylength, 1) := by decide +kernel
theorem dLaw_law_27 : decode code 27 = .ok (.iconst 5, 1) := by decide +kernel
theorem dLaw_law_28 : decode code 28 = .ok (.isub, 1) := by decide +kernel
theorem dLaw_law_29 : decode code 29 = .ok (.if_icmp .gt 623, 3) := by decide +kernel
theorem dLaw_law_32 : decode code 32 = .ok (.aload_n 0, 1) := by decide +kernel
theorem dLaw_law_33 : decode code 33 = .ok (.iload 4, 2) := by decide +kernel
theorem dLaw_law_35 : decode code 35 = .ok (.iaload, 1) := by decide +kernel
theorem dLaw_law_36 : decode code 36 = .ok (.bipush 15, 2) := by decide +kernel
theorem dLaw_law_38 : decode code 38 = .ok (.iand, 1) := by decide +kernel
theorem dLaw_law_39 : decode code 39 = .ok (.tableswitch 607 0 12 #[65, 121, 189, 245, 270, 362, 375, 388, 444, 512, 525, 538, 594], 65) := by decide +kernel
theorem dLaw_law_104 : decode code 104 = .ok (.aload_n 1, 1) := by decide +kernel
theorem dLaw_law_105 : decode code 105 = .ok (.aload_n 0, 1) := by decide +kernel
theorem dLaw_law_106 : decode code 106 = .ok (.iload 4, 2) := by decide +kernel
theorem dLaw_law_108 : decode code 108 = .ok (.iconst 1, 1) := by decide +kernel
theorem dLaw_law_109 : decode code 109 = .ok (.iadd, 1) := by decide +kernel
theorem dLaw_law_110 : decode code 110 = .ok (.iaload, 1) := by decide +kernel
theorem dLaw_law_111 : decode code 111 = .ok (.aload_n 3, 1) := by decide +kernel
theorem dLaw_law_112 : decode code 112 = .ok (.invokestatic 43, 3) := by decide +kernel
theorem dLaw_law_115 : decode code 115 = .ok (.istore 5, 2) := by decide +kernel
theorem dLaw_law_117 : decode code 117 = .ok (.aload_n 2, 1) := by decide +kernel
theorem dLaw_law_118 : decode code 118 = .ok (.aload_n 0, 1) := by decide +kernel
theorem dLaw_law_119 : decode code 119 = .ok (.iload 4, 2) := by decide +kernel
theorem dLaw_law_121 : decode code 121 = .ok (.iconst 1, 1) := by decide +kernel
theorem dLaw_law_122 : decode code 122 = .ok (.iadd, 1) := by decide +kernel
theorem dLaw_law_123 : decode code 123 = .ok (.iaload, 1) := by decide +kernel
theorem dLaw_law_124 : decode code 124 = .ok (.invokevirtual 48, 3) := by decide +kernel
theorem dLaw_law_127 : decode code 127 = .ok (.istore 6, 2) := by decide +kernel
theorem dLaw_law_129 : decode code 129 = .ok (.aload_n 2, 1) := by decide +kernel
theorem dLaw_law_130 : decode code 130 = .ok (.invokevirtual 49, 3) := by decide +kernel
theorem dLaw_law_133 : decode code 133 = .ok (.iload 5, 2) := by decide +kernel
theorem dLaw_law_135 : decode code 135 = .ok (.if_icmp .eq 5, 3) := by decide +kernel
theorem dLaw_law_138 : decode code 138 = .ok (.iconst 0, 1) := by decide +kernel
theorem dLaw_law_139 : decode code 139 = .ok (.ireturn, 1) := by decide +kernel
theorem dLaw_law_140 : decode code 140 = .ok (.iload 5, 2) := by decide +kernel
theorem dLaw_law_142 : decode code 142 = .ok (.ifCond .ne 15, 3) := by decide +kernel
theorem dLaw_law_145 : decode code 145 = .ok (.aload_n 3, 1) := by decide +kernel
theorem dLaw_law_146 : decode code 146 = .ok (.iconst 0, 1) := by decide +kernel
theorem dLaw_law_147 : decode code 147 = .ok (.laload, 1) := by decide +kernel
theorem dLaw_law_148 : decode code 148 = .ok (.iload 6, 2) := by decide +kernel
theorem dLaw_law_150 : decode code 150 = .ok (.i2l, 1) := by decide +kernel
theorem dLaw_law_151 : decode code 151 = .ok (.lcmp, 1) := by decide +kernel
theorem dLaw_law_152 : decode code 152 = .ok (.ifCond .eq 5, 3) := by decide +kernel
theorem dLaw_law_155 : decode code 155 = .ok (.iconst 0, 1) := by decide +kernel
theorem dLaw_law_156 : decode code 156 = .ok (.ireturn, 1) := by decide +kernel
theorem dLaw_law_157 : decode code 157 = .ok (.goto 489, 3) := by decide +kernel
theorem dLaw_law_160 : decode code 160 = .ok (.aload_n 1, 1) := by decide +kernel
theorem dLaw_law_161 : decode code 161 = .ok (.aload_n 0, 1) := by decide +kernel
theorem dLaw_law_162 : decode code 162 = .ok (.iload 4, 2) := by decide +kernel
theorem dLaw_law_164 : decode code 164 = .ok (.iconst 1, 1) := by decide +kernel
theorem dLaw_law_165 : decode code 165 = .ok (.iadd, 1) := by decide +kernel
theorem dLaw_law_166 : decode code 166 = .ok (.iaload, 1) := by decide +kernel
theorem dLaw_law_167 : decode code 167 = .ok (.aload_n 0, 1) := by decide +kernel
theorem dLaw_law_168 : decode code 168 = .ok (.iload 4, 2) := by decide +kernel
theorem dLaw_law_170 : decode code 170 = .ok (.iconst 2, 1) := by decide +kernel
theorem dLaw_law_171 : decode code 171 = .ok (.iadd, 1) := by decide +kernel
theorem dLaw_law_172 : decode code 172 = .ok (.iaload, 1) := by decide +kernel
theorem dLaw_law_173 : decode code 173 = .ok (.aload_n 3, 1) := by decide +kernel
theorem dLaw_law_174 : decode code 174 = .ok (.invokestatic 53, 3) := by decide +kernel
theorem dLaw_law_177 : decode code 177 = .ok (.istore 5, 2) := by decide +kernel
theorem dLaw_law_179 : decode code 179 = .ok (.aload_n 2, 1) := by decide +kernel
theorem dLaw_law_180 : decode code 180 = .ok (.aload_n 0, 1) := by decide +kernel
theorem dLaw_law_181 : decode code 181 = .ok (.iload 4, 2) := by decide +kernel
theorem dLaw_law_183 : decode code 183 = .ok (.iconst 1, 1) := by decide +kernel
theorem dLaw_law_184 : decode code 184 = .ok (.iadd, 1) := by decide +kernel
theorem dLaw_law_185 : decode code 185 = .ok (.iaload, 1) := by decide +kernel
theorem dLaw_law_186 : decode code 186 = .ok (.aload_n 0, 1) := by decide +kernel
theorem dLaw_law_187 : decode code 187 = .ok (.iload 4, 2) := by decide +kernel
theorem dLaw_law_189 : decode code 189 = .ok (.iconst 2, 1) := by decide +kernel
theorem dLaw_law_190 : decode code 190 = .ok (.iadd, 1) := by decide +kernel
theorem dLaw_law_191 : decode code 191 = .ok (.iaload, 1) := by decide +kernel
theorem dLaw_law_192 : decode code 192 = .ok (.invokevirtual 56, 3) := by decide +kernel
theorem dLaw_law_195 : decode code 195 = .ok (.istore 6, 2) := by decide +kernel
theorem dLaw_law_197 : decode code 197 = .ok (.aload_n 2, 1) := by decide +kernel
theorem dLaw_law_198 : decode code 198 = .ok (.invokevirtual 49, 3) := by decide +kernel
theorem dLaw_law_201 : decode code 201 = .ok (.iload 5, 2) := by decide +kernel
theorem dLaw_law_203 : decode code 203 = .ok (.if_icmp .eq 5, 3) := by decide +kernel
theorem dLaw_law_206 : decode code 206 = .ok (.iconst 0, 1) := by decide +kernel
theorem dLaw_law_207 : decode code 207 = .ok (.ireturn, 1) := by decide +kernel
theorem dLaw_law_208 : decode code 208 = .ok (.iload 5, 2) := by decide +kernel
theorem dLaw_law_210 : decode code 210 = .ok (.ifCond .ne 15, 3) := by decide +kernel
theorem dLaw_law_213 : decode code 213 = .ok (.aload_n 3, 1) := by decide +kernel
theorem dLaw_law_214 : decode code 214 = .ok (.iconst 0, 1) := by decide +kernel
theorem dLaw_law_215 : decode code 215 = .ok (.laload, 1) := by decide +kernel
theorem dLaw_law_216 : decode code 216 = .ok (.iload 6, 2) := by decide +kernel
theorem dLaw_law_218 : decode code 218 = .ok (.i2l, 1) := by decide +kernel
theorem dLaw_law_219 : decode code 219 = .ok (.lcmp, 1) := by decide +kernel
theorem dLaw_law_220 : decode code 220 = .ok (.ifCond .eq 5, 3) := by decide +kernel
theorem dLaw_law_223 : decode code 223 = .ok (.iconst 0, 1) := by decide +kernel
theorem dLaw_law_224 : decode code 224 = .ok (.ireturn, 1) := by decide +kernel
theorem dLaw_law_225 : decode code 225 = .ok (.goto 421, 3) := by decide +kernel
theorem dLaw_law_228 : decode code 228 = .ok (.aload_n 1, 1) := by decide +kernel
theorem dLaw_law_229 : decode code 229 = .ok (.aload_n 0, 1) := by decide +kernel
theorem dLaw_law_230 : decode code 230 = .ok (.iload 4, 2) := by decide +kernel
theorem dLaw_law_232 : decode code 232 = .ok (.iconst 1, 1) := by decide +kernel
theorem dLaw_law_233 : decode code 233 = .ok (.iadd, 1) := by decide +kernel
theorem dLaw_law_234 : decode code 234 = .ok (.iaload, 1) := by decide +kernel
theorem dLaw_law_235 : decode code 235 = .ok (.aload_n 3, 1) := by decide +kernel
theorem dLaw_law_236 : decode code 236 = .ok (.invokestatic 57, 3) := by decide +kernel
theorem dLaw_law_239 : decode code 239 = .ok (.istore 5, 2) := by decide +kernel
theorem dLaw_law_241 : decode code 241 = .ok (.aload_n 2, 1) := by decide +kernel
theorem dLaw_law_242 : decode code 242 = .ok (.aload_n 0, 1) := by decide +kernel
theorem dLaw_law_243 : decode code 243 = .ok (.iload 4, 2) := by decide +kernel
theorem dLaw_law_245 : decode code 245 = .ok (.iconst 1, 1) := by decide +kernel
theorem dLaw_law_246 : decode code 246 = .ok (.iadd, 1) := by decide +kernel
theorem dLaw_law_247 : decode code 247 = .ok (.iaload, 1) := by decide +kernel
theorem dLaw_law_248 : decode code 248 = .ok (.invokevirtual 59, 3) := by decide +kernel
theorem dLaw_law_251 : decode code 251 = .ok (.istore 6, 2) := by decide +kernel
theorem dLaw_law_253 : decode code 253 = .ok (.aload_n 2, 1) := by decide +kernel
theorem dLaw_law_254 : decode code 254 = .ok (.invokevirtual 49, 3) := by decide +kernel
theorem dLaw_law_257 : decode code 257 = .ok (.iload 5, 2) := by decide +kernel
theorem dLaw_law_259 : decode code 259 = .ok (.if_icmp .eq 5, 3) := by decide +kernel
theorem dLaw_law_262 : decode code 262 = .ok (.iconst 0, 1) := by decide +kernel
theorem dLaw_law_263 : decode code 263 = .ok (.ireturn, 1) := by decide +kernel
theorem dLaw_law_264 : decode code 264 = .ok (.iload 5, 2) := by decide +kernel
theorem dLaw_law_266 : decode code 266 = .ok (.ifCond .ne 15, 3) := by decide +kernel
theorem dLaw_law_269 : decode code 269 = .ok (.aload_n 3, 1) := by decide +kernel
theorem dLaw_law_270 : decode code 270 = .ok (.iconst 0, 1) := by decide +kernel
theorem dLaw_law_271 : decode code 271 = .ok (.laload, 1) := by decide +kernel
theorem dLaw_law_272 : decode code 272 = .ok (.iload 6, 2) := by decide +kernel
theorem dLaw_law_274 : decode code 274 = .ok (.i2l, 1) := by decide +kernel
theorem dLaw_law_275 : decode code 275 = .ok (.lcmp, 1) := by decide +kernel
theorem dLaw_law_276 : decode code 276 = .ok (.ifCond .eq 5, 3) := by decide +kernel
theorem dLaw_law_279 : decode code 279 = .ok (.iconst 0, 1) := by decide +kernel
theorem dLaw_law_280 : decode code 280 = .ok (.ireturn, 1) := by decide +kernel
theorem dLaw_law_281 : decode code 281 = .ok (.goto 365, 3) := by decide +kernel
theorem dLaw_law_284 : decode code 284 = .ok (.aload_n 1, 1) := by decide +kernel
theorem dLaw_law_285 : decode code 285 = .ok (.aload_n 0, 1) := by decide +kernel
theorem dLaw_law_286 : decode code 286 = .ok (.iload 4, 2) := by decide +kernel
theorem dLaw_law_288 : decode code 288 = .ok (.iconst 1, 1) := by decide +kernel
theorem dLaw_law_289 : decode code 289 = .ok (.iadd, 1) := by decide +kernel
theorem dLaw_law_290 : decode code 290 = .ok (.iaload, 1) := by decide +kernel
theorem dLaw_law_291 : decode code 291 = .ok (.invokevirtual 60, 3) := by decide +kernel
theorem dLaw_law_294 : decode code 294 = .ok (.aload_n 2, 1) := by decide +kernel
theorem dLaw_law_295 : decode code 295 = .ok (.aload_n 0, 1) := by decide +kernel
theorem dLaw_law_296 : decode code 296 = .ok (.iload 4, 2) := by decide +kernel
theorem dLaw_law_298 : decode code 298 = .ok (.iconst 1, 1) := by decide +kernel
theorem dLaw_law_299 : decode code 299 = .ok (.iadd, 1) := by decide +kernel
theorem dLaw_law_300 : decode code 300 = .ok (.iaload, 1) := by decide +kernel
theorem dLaw_law_301 : decode code 301 = .ok (.invokevirtual 63, 3) := by decide +kernel
theorem dLaw_law_304 : decode code 304 = .ok (.if_icmp .eq 342, 3) := by decide +kernel
theorem dLaw_law_307 : decode code 307 = .ok (.iconst 0, 1) := by decide +kernel
theorem dLaw_law_308 : decode code 308 = .ok (.ireturn, 1) := by decide +kernel
theorem dLaw_law_309 : decode code 309 = .ok (.aload_n 1, 1) := by decide +kernel
theorem dLaw_law_310 : decode code 310 = .ok (.aload_n 0, 1) := by decide +kernel
theorem dLaw_law_311 : decode code 311 = .ok (.iload 4, 2) := by decide +kernel
theorem dLaw_law_313 : decode code 313 = .ok (.iconst 1, 1) := by decide +kernel
theorem dLaw_law_314 : decode code 314 = .ok (.iadd, 1) := by decide +kernel
theorem dLaw_law_315 : decode code 315 = .ok (.iaload, 1) := by decide +kernel
theorem dLaw_law_316 : decode code 316 = .ok (.aload_n 0, 1) := by decide +kernel
theorem dLaw_law_317 : decode code 317 = .ok (.iload 4, 2) := by decide +kernel
theorem dLaw_law_319 : decode code 319 = .ok (.iconst 2, 1) := by decide +kernel
theorem dLaw_law_320 : decode code 320 = .ok (.iadd, 1) := by decide +kernel
theorem dLaw_law_321 : decode code 321 = .ok (.iaload, 1) := by decide +kernel
theorem dLaw_law_322 : decode code 322 = .ok (.aload_n 0, 1) := by decide +kernel
theorem dLaw_law_323 : decode code 323 = .ok (.iload 4, 2) := by decide +kernel
theorem dLaw_law_325 : decode code 325 = .ok (.iconst 3, 1) := by decide +kernel
theorem dLaw_law_326 : decode code 326 = .ok (.iadd, 1) := by decide +kernel
theorem dLaw_law_327 : decode code 327 = .ok (.iaload, 1) := by decide +kernel
theorem dLaw_law_328 : decode code 328 = .ok (.aload_n 0, 1) := by decide +kernel
theorem dLaw_law_329 : decode code 329 = .ok (.iload 4, 2) := by decide +kernel
theorem dLaw_law_331 : decode code 331 = .ok (.iconst 4, 1) := by decide +kernel
theorem dLaw_law_332 : decode code 332 = .ok (.iadd, 1) := by decide +kernel
theorem dLaw_law_333 : decode code 333 = .ok (.iaload, 1) := by decide +kernel
theorem dLaw_law_334 : decode code 334 = .ok (.aload_n 3, 1) := by decide +kernel
theorem dLaw_law_335 : decode code 335 = .ok (.invokestatic 64, 3) := by decide +kernel
theorem dLaw_law_338 : decode code 338 = .ok (.istore 5, 2) := by decide +kernel
theorem dLaw_law_340 : decode code 340 = .ok (.aload_n 2, 1) := by decide +kernel
theorem dLaw_law_341 : decode code 341 = .ok (.aload_n 0, 1) := by decide +kernel
theorem dLaw_law_342 : decode code 342 = .ok (.iload 4, 2) := by decide +kernel
theorem dLaw_law_344 : decode code 344 = .ok (.iconst 1, 1) := by decide +kernel
theorem dLaw_law_345 : decode code 345 = .ok (.iadd, 1) := by decide +kernel
theorem dLaw_law_346 : decode code 346 = .ok (.iaload, 1) := by decide +kernel
theorem dLaw_law_347 : decode code 347 = .ok (.aload_n 0, 1) := by decide +kernel
theorem dLaw_law_348 : decode code 348 = .ok (.iload 4, 2) := by decide +kernel
theorem dLaw_law_350 : decode code 350 = .ok (.iconst 2, 1) := by decide +kernel
theorem dLaw_law_351 : decode code 351 = .ok (.iadd, 1) := by decide +kernel
theorem dLaw_law_352 : decode code 352 = .ok (.iaload, 1) := by decide +kernel
theorem dLaw_law_353 : decode code 353 = .ok (.aload_n 0, 1) := by decide +kernel
theorem dLaw_law_354 : decode code 354 = .ok (.iload 4, 2) := by decide +kernel
theorem dLaw_law_356 : decode code 356 = .ok (.iconst 3, 1) := by decide +kernel
theorem dLaw_law_357 : decode code 357 = .ok (.iadd, 1) := by decide +kernel
theorem dLaw_law_358 : decode code 358 = .ok (.iaload, 1) := by decide +kernel
theorem dLaw_law_359 : decode code 359 = .ok (.aload_n 0, 1) := by decide +kernel
theorem dLaw_law_360 : decode code 360 = .ok (.iload 4, 2) := by decide +kernel
theorem dLaw_law_362 : decode code 362 = .ok (.iconst 4, 1) := by decide +kernel
theorem dLaw_law_363 : decode code 363 = .ok (.iadd, 1) := by decide +kernel
theorem dLaw_law_364 : decode code 364 = .ok (.iaload, 1) := by decide +kernel
theorem dLaw_law_365 : decode code 365 = .ok (.invokevirtual 67, 3) := by decide +kernel
theorem dLaw_law_368 : decode code 368 = .ok (.istore 6, 2) := by decide +kernel
theorem dLaw_law_370 : decode code 370 = .ok (.aload_n 2, 1) := by decide +kernel
theorem dLaw_law_371 : decode code 371 = .ok (.invokevirtual 49, 3) := by decide +kernel
theorem dLaw_law_374 : decode code 374 = .ok (.iload 5, 2) := by decide +kernel
theorem dLaw_law_376 : decode code 376 = .ok (.if_icmp .eq 5, 3) := by decide +kernel
theorem dLaw_law_379 : decode code 379 = .ok (.iconst 0, 1) := by decide +kernel
theorem dLaw_law_380 : decode code 380 = .ok (.ireturn, 1) := by decide +kernel
theorem dLaw_law_381 : decode code 381 = .ok (.iload 5, 2) := by decide +kernel
theorem dLaw_law_383 : decode code 383 = .ok (.ifCond .ne 15, 3) := by decide +kernel
theorem dLaw_law_386 : decode code 386 = .ok (.aload_n 3, 1) := by decide +kernel
theorem dLaw_law_387 : decode code 387 = .ok (.iconst 0, 1) := by decide +kernel
theorem dLaw_law_388 : decode code 388 = .ok (.laload, 1) := by decide +kernel
theorem dLaw_law_389 : decode code 389 = .ok (.iload 6, 2) := by decide +kernel
theorem dLaw_law_391 : decode code 391 = .ok (.i2l, 1) := by decide +kernel
theorem dLaw_law_392 : decode code 392 = .ok (.lcmp, 1) := by decide +kernel
theorem dLaw_law_393 : decode code 393 = .ok (.ifCond .eq 5, 3) := by decide +kernel
theorem dLaw_law_396 : decode code 396 = .ok (.iconst 0, 1) := by decide +kernel
theorem dLaw_law_397 : decode code 397 = .ok (.ireturn, 1) := by decide +kernel
theorem dLaw_law_398 : decode code 398 = .ok (.goto 248, 3) := by decide +kernel
theorem dLaw_law_401 : decode code 401 = .ok (.aload_n 1, 1) := by decide +kernel
theorem dLaw_law_402 : decode code 402 = .ok (.invokevirtual 68, 3) := by decide +kernel
theorem dLaw_law_405 : decode code 405 = .ok (.aload_n 2, 1) := by decide +kernel
theorem dLaw_law_406 : decode code 406 = .ok (.invokevirtual 71, 3) := by decide +kernel
theorem dLaw_law_409 : decode code 409 = .ok (.if_icmp .eq 237, 3) := by decide +kernel
theorem dLaw_law_412 : decode code 412 = .ok (.iconst 0, 1) := by decide +kernel
theorem dLaw_law_413 : decode code 413 = .ok (.ireturn, 1) := by decide +kernel
theorem dLaw_law_414 : decode code 414 = .ok (.aload_n 1, 1) := by decide +kernel
theorem dLaw_law_415 : decode code 415 = .ok (.invokevirtual 72, 3) := by decide +kernel
theorem dLaw_law_418 : decode code 418 = .ok (.aload_n 2, 1) := by decide +kernel
theorem dLaw_law_419 : decode code 419 = .ok (.invokevirtual 75, 3) := by decide +kernel
theorem dLaw_law_422 : decode code 422 = .ok (.if_icmp .eq 224, 3) := by decide +kernel
theorem dLaw_law_425 : decode code 425 = .ok (.iconst 0, 1) := by decide +kernel
theorem dLaw_law_426 : decode code 426 = .ok (.ireturn, 1) := by decide +kernel
theorem dLaw_law_427 : decode code 427 = .ok (.aload_n 1, 1) := by decide +kernel
theorem dLaw_law_428 : decode code 428 = .ok (.aload_n 0, 1) := by decide +kernel
theorem dLaw_law_429 : decode code 429 = .ok (.iload 4, 2) := by decide +kernel
theorem dLaw_law_431 : decode code 431 = .ok (.iconst 1, 1) := by decide +kernel
theorem dLaw_law_432 : decode code 432 = .ok (.iadd, 1) := by decide +kernel
theorem dLaw_law_433 : decode code 433 = .ok (.iaload, 1) := by decide +kernel
theorem dLaw_law_434 : decode code 434 = .ok (.aload_n 3, 1) := by decide +kernel
theorem dLaw_law_435 : decode code 435 = .ok (.invokestatic 76, 3) := by decide +kernel
theorem dLaw_law_438 : decode code 438 = .ok (.istore 5, 2) := by decide +kernel
theorem dLaw_law_440 : decode code 440 = .ok (.aload_n 2, 1) := by decide +kernel
theorem dLaw_law_441 : decode code 441 = .ok (.aload_n 0, 1) := by decide +kernel
theorem dLaw_law_442 : decode code 442 = .ok (.iload 4, 2) := by decide +kernel
theorem dLaw_law_444 : decode code 444 = .ok (.iconst 1, 1) := by decide +kernel
theorem dLaw_law_445 : decode code 445 = .ok (.iadd, 1) := by decide +kernel
theorem dLaw_law_446 : decode code 446 = .ok (.iaload, 1) := by decide +kernel
theorem dLaw_law_447 : decode code 447 = .ok (.invokevirtual 78, 3) := by decide +kernel
theorem dLaw_law_450 : decode code 450 = .ok (.istore 6, 2) := by decide +kernel
theorem dLaw_law_452 : decode code 452 = .ok (.aload_n 2, 1) := by decide +kernel
theorem dLaw_law_453 : decode code 453 = .ok (.invokevirtual 49, 3) := by decide +kernel
theorem dLaw_law_456 : decode code 456 = .ok (.iload 5, 2) := by decide +kernel
theorem dLaw_law_458 : decode code 458 = .ok (.if_icmp .eq 5, 3) := by decide +kernel
theorem dLaw_law_461 : decode code 461 = .ok (.iconst 0, 1) := by decide +kernel
theorem dLaw_law_462 : decode code 462 = .ok (.ireturn, 1) := by decide +kernel
theorem dLaw_law_463 : decode code 463 = .ok (.iload 5, 2) := by decide +kernel
theorem dLaw_law_465 : decode code 465 = .ok (.ifCond .ne 15, 3) := by decide +kernel
theorem dLaw_law_468 : decode code 468 = .ok (.aload_n 3, 1) := by decide +kernel
theorem dLaw_law_469 : decode code 469 = .ok (.iconst 0, 1) := by decide +kernel
theorem dLaw_law_470 : decode code 470 = .ok (.laload, 1) := by decide +kernel
theorem dLaw_law_471 : decode code 471 = .ok (.iload 6, 2) := by decide +kernel
theorem dLaw_law_473 : decode code 473 = .ok (.i2l, 1) := by decide +kernel
theorem dLaw_law_474 : decode code 474 = .ok (.lcmp, 1) := by decide +kernel
theorem dLaw_law_475 : decode code 475 = .ok (.ifCond .eq 5, 3) := by decide +kernel
theorem dLaw_law_478 : decode code 478 = .ok (.iconst 0, 1) := by decide +kernel
theorem dLaw_law_479 : decode code 479 = .ok (.ireturn, 1) := by decide +kernel
theorem dLaw_law_480 : decode code 480 = .ok (.goto 166, 3) := by decide +kernel
theorem dLaw_law_483 : decode code 483 = .ok (.aload_n 1, 1) := by decide +kernel
theorem dLaw_law_484 : decode code 484 = .ok (.aload_n 0, 1) := by decide +kernel
theorem dLaw_law_485 : decode code 485 = .ok (.iload 4, 2) := by decide +kernel
theorem dLaw_law_487 : decode code 487 = .ok (.iconst 1, 1) := by decide +kernel
theorem dLaw_law_488 : decode code 488 = .ok (.iadd, 1) := by decide +kernel
theorem dLaw_law_489 : decode code 489 = .ok (.iaload, 1) := by decide +kernel
theorem dLaw_law_490 : decode code 490 = .ok (.aload_n 0, 1) := by decide +kernel
theorem dLaw_law_491 : decode code 491 = .ok (.iload 4, 2) := by decide +kernel
theorem dLaw_law_493 : decode code 493 = .ok (.iconst 2, 1) := by decide +kernel
theorem dLaw_law_494 : decode code 494 = .ok (.iadd, 1) := by decide +kernel
theorem dLaw_law_495 : decode code 495 = .ok (.iaload, 1) := by decide +kernel
theorem dLaw_law_496 : decode code 496 = .ok (.aload_n 3, 1) := by decide +kernel
theorem dLaw_law_497 : decode code 497 = .ok (.invokestatic 79, 3) := by decide +kernel
theorem dLaw_law_500 : decode code 500 = .ok (.istore 5, 2) := by decide +kernel
theorem dLaw_law_502 : decode code 502 = .ok (.aload_n 2, 1) := by decide +kernel
theorem dLaw_law_503 : decode code 503 = .ok (.aload_n 0, 1) := by decide +kernel
theorem dLaw_law_504 : decode code 504 = .ok (.iload 4, 2) := by decide +kernel
theorem dLaw_law_506 : decode code 506 = .ok (.iconst 1, 1) := by decide +kernel
theorem dLaw_law_507 : decode code 507 = .ok (.iadd, 1) := by decide +kernel
theorem dLaw_law_508 : decode code 508 = .ok (.iaload, 1) := by decide +kernel
theorem dLaw_law_509 : decode code 509 = .ok (.aload_n 0, 1) := by decide +kernel
theorem dLaw_law_510 : decode code 510 = .ok (.iload 4, 2) := by decide +kernel
theorem dLaw_law_512 : decode code 512 = .ok (.iconst 2, 1) := by decide +kernel
theorem dLaw_law_513 : decode code 513 = .ok (.iadd, 1) := by decide +kernel
theorem dLaw_law_514 : decode code 514 = .ok (.iaload, 1) := by decide +kernel
theorem dLaw_law_515 : decode code 515 = .ok (.invokevirtual 81, 3) := by decide +kernel
theorem dLaw_law_518 : decode code 518 = .ok (.istore 6, 2) := by decide +kernel
theorem dLaw_law_520 : decode code 520 = .ok (.aload_n 2, 1) := by decide +kernel
theorem dLaw_law_521 : decode code 521 = .ok (.invokevirtual 49, 3) := by decide +kernel
theorem dLaw_law_524 : decode code 524 = .ok (.iload 5, 2) := by decide +kernel
theorem dLaw_law_526 : decode code 526 = .ok (.if_icmp .eq 5, 3) := by decide +kernel
theorem dLaw_law_529 : decode code 529 = .ok (.iconst 0, 1) := by decide +kernel
theorem dLaw_law_530 : decode code 530 = .ok (.ireturn, 1) := by decide +kernel
theorem dLaw_law_531 : decode code 531 = .ok (.iload 5, 2) := by decide +kernel
theorem dLaw_law_533 : decode code 533 = .ok (.ifCond .ne 15, 3) := by decide +kernel
theorem dLaw_law_536 : decode code 536 = .ok (.aload_n 3, 1) := by decide +kernel
theorem dLaw_law_537 : decode code 537 = .ok (.iconst 0, 1) := by decide +kernel
theorem dLaw_law_538 : decode code 538 = .ok (.laload, 1) := by decide +kernel
theorem dLaw_law_539 : decode code 539 = .ok (.iload 6, 2) := by decide +kernel
theorem dLaw_law_541 : decode code 541 = .ok (.i2l, 1) := by decide +kernel
theorem dLaw_law_542 : decode code 542 = .ok (.lcmp, 1) := by decide +kernel
theorem dLaw_law_543 : decode code 543 = .ok (.ifCond .eq 5, 3) := by decide +kernel
theorem dLaw_law_546 : decode code 546 = .ok (.iconst 0, 1) := by decide +kernel
theorem dLaw_law_547 : decode code 547 = .ok (.ireturn, 1) := by decide +kernel
theorem dLaw_law_548 : decode code 548 = .ok (.goto 98, 3) := by decide +kernel
theorem dLaw_law_551 : decode code 551 = .ok (.aload_n 1, 1) := by decide +kernel
theorem dLaw_law_552 : decode code 552 = .ok (.invokevirtual 82, 3) := by decide +kernel
theorem dLaw_law_555 : decode code 555 = .ok (.aload_n 2, 1) := by decide +kernel
theorem dLaw_law_556 : decode code 556 = .ok (.invokevirtual 85, 3) := by decide +kernel
theorem dLaw_law_559 : decode code 559 = .ok (.if_icmp .eq 87, 3) := by decide +kernel
theorem dLaw_law_562 : decode code 562 = .ok (.iconst 0, 1) := by decide +kernel
theorem dLaw_law_563 : decode code 563 = .ok (.ireturn, 1) := by decide +kernel
theorem dLaw_law_564 : decode code 564 = .ok (.aload_n 1, 1) := by decide +kernel
theorem dLaw_law_565 : decode code 565 = .ok (.invokevirtual 86, 3) := by decide +kernel
theorem dLaw_law_568 : decode code 568 = .ok (.aload_n 2, 1) := by decide +kernel
theorem dLaw_law_569 : decode code 569 = .ok (.invokevirtual 89, 3) := by decide +kernel
theorem dLaw_law_572 : decode code 572 = .ok (.if_icmp .eq 74, 3) := by decide +kernel
theorem dLaw_law_575 : decode code 575 = .ok (.iconst 0, 1) := by decide +kernel
theorem dLaw_law_576 : decode code 576 = .ok (.ireturn, 1) := by decide +kernel
theorem dLaw_law_577 : decode code 577 = .ok (.aload_n 1, 1) := by decide +kernel
theorem dLaw_law_578 : decode code 578 = .ok (.aload_n 0, 1) := by decide +kernel
theorem dLaw_law_579 : decode code 579 = .ok (.iload 4, 2) := by decide +kernel
theorem dLaw_law_581 : decode code 581 = .ok (.iconst 1, 1) := by decide +kernel
theorem dLaw_law_582 : decode code 582 = .ok (.iadd, 1) := by decide +kernel
theorem dLaw_law_583 : decode code 583 = .ok (.iaload, 1) := by decide +kernel
theorem dLaw_law_584 : decode code 584 = .ok (.aload_n 3, 1) := by decide +kernel
theorem dLaw_law_585 : decode code 585 = .ok (.invokestatic 90, 3) := by decide +kernel
theorem dLaw_law_588 : decode code 588 = .ok (.istore 5, 2) := by decide +kernel
theorem dLaw_law_590 : decode code 590 = .ok (.aload_n 2, 1) := by decide +kernel
theorem dLaw_law_591 : decode code 591 = .ok (.aload_n 0, 1) := by decide +kernel
theorem dLaw_law_592 : decode code 592 = .ok (.iload 4, 2) := by decide +kernel
theorem dLaw_law_594 : decode code 594 = .ok (.iconst 1, 1) := by decide +kernel
theorem dLaw_law_595 : decode code 595 = .ok (.iadd, 1) := by decide +kernel
theorem dLaw_law_596 : decode code 596 = .ok (.iaload, 1) := by decide +kernel
theorem dLaw_law_597 : decode code 597 = .ok (.invokevirtual 92, 3) := by decide +kernel
theorem dLaw_law_600 : decode code 600 = .ok (.istore 6, 2) := by decide +kernel
theorem dLaw_law_602 : decode code 602 = .ok (.aload_n 2, 1) := by decide +kernel
theorem dLaw_law_603 : decode code 603 = .ok (.invokevirtual 49, 3) := by decide +kernel
theorem dLaw_law_606 : decode code 606 = .ok (.iload 5, 2) := by decide +kernel
theorem dLaw_law_608 : decode code 608 = .ok (.if_icmp .eq 5, 3) := by decide +kernel
theorem dLaw_law_611 : decode code 611 = .ok (.iconst 0, 1) := by decide +kernel
theorem dLaw_law_612 : decode code 612 = .ok (.ireturn, 1) := by decide +kernel
theorem dLaw_law_613 : decode code 613 = .ok (.iload 5, 2) := by decide +kernel
theorem dLaw_law_615 : decode code 615 = .ok (.ifCond .ne 15, 3) := by decide +kernel
theorem dLaw_law_618 : decode code 618 = .ok (.aload_n 3, 1) := by decide +kernel
theorem dLaw_law_619 : decode code 619 = .ok (.iconst 0, 1) := by decide +kernel
theorem dLaw_law_620 : decode code 620 = .ok (.laload, 1) := by decide +kernel
theorem dLaw_law_621 : decode code 621 = .ok (.iload 6, 2) := by decide +kernel
theorem dLaw_law_623 : decode code 623 = .ok (.i2l, 1) := by decide +kernel
theorem dLaw_law_624 : decode code 624 = .ok (.lcmp, 1) := by decide +kernel
theorem dLaw_law_625 : decode code 625 = .ok (.ifCond .eq 5, 3) := by decide +kernel
theorem dLaw_law_628 : decode code 628 = .ok (.iconst 0, 1) := by decide +kernel
theorem dLaw_law_629 : decode code 629 = .ok (.ireturn, 1) := by decide +kernel
theorem dLaw_law_630 : decode code 630 = .ok (.goto 16, 3) := by decide +kernel
theorem dLaw_law_633 : decode code 633 = .ok (.aload_n 1, 1) := by decide +kernel
theorem dLaw_law_634 : decode code 634 = .ok (.invokevirtual 93, 3) := by decide +kernel
theorem dLaw_law_637 : decode code 637 = .ok (.aload_n 2, 1) := by decide +kernel
theorem dLaw_law_638 : decode code 638 = .ok (.invokevirtual 96, 3) := by decide +kernel
theorem dLaw_law_641 : decode code 641 = .ok (.if_icmp .eq 5, 3) := by decide +kernel
theorem dLaw_law_644 : decode code 644 = .ok (.iconst 0, 1) := by decide +kernel
theorem dLaw_law_645 : decode code 645 = .ok (.ireturn, 1) := by decide +kernel
theorem dLaw_law_646 : decode code 646 = .ok (.iinc 4 5, 3) := by decide +kernel
theorem dLaw_law_649 : decode code 649 = .ok (.goto (-626), 3) := by decide +kernel
theorem dLaw_law_652 : decode code 652 = .ok (.iconst 1, 1) := by decide +kernel
theorem dLaw_law_653 : decode code 653 = .ok (.ireturn, 1) := by decide +kernel
section XTailCallsI
variable {X : (Nat → Prop) → State → Prop} {S : Type} {p : Program} {l : Launch} {e : Env} {R : Room} {s : State} {m : MethodId} {args : Array Value} {below : List Frame} {meth : Method} {c : Code} {H : Heap} {locs : List Loc} {cells slots : Nat} {Q : State → Prop}
  {y : MethodName} {cw : List Cond} {rm : Room} {D : va_G} {cl : List vw_C} {tys : List (ClassId × FieldType)} {ws wc wr pl : va_W} {mc ms n maxL nL index pc : Nat} {cc bytes : ByteArray} {ret : Option FieldType} {w1 rx px : S → va_W} {Ts : List Cond} {own Cn host : String} {A : Nat → Prop} {b ci : Nat} {As rest st0 : List Value} {fs : List Value} {ls : Array Slot} {T : u_T} {N : Nat}
theorem XM.callIQv {post : Unit → S → Prop} (hXk : x_ok X) (CF : CallFix p m c cc nL s args Ts own) (hM : XM X l y cw rm D cl tys wc (.ref b :: As) mc ms x_eV post w1) (hcw : CallB R s args own index y bytes maxL none cw rm mc ms n ∧ y.name = "<init>" ∧ (Cond.instanceMethod y).before args s = true) (hK : va_K D cl tys s) (hP : va_P D cl (ws ++ pl) H) (hD : va_D A (ws ++ pl)) (hS : va_S A s.heap H locs) (hA : ∀ q : Nat, s.heap.size ≤ q → A q) (hX : X A s)
    (isC isR : List Nat) (hC : isC.map (fun i => ws[i]?) = wc.map some) (hR : isR.map (fun i => ws[i]?) = wr.map some) (hn1 : va_nd isC = true) (hn2 : va_nd isR = true) (hdis : ∀ i ∈ isR, i ∉ isC) (hn : As.length = n) (hst : st0 = As.reverse ++ .ref b :: rest) (hsize : ls.size = nL) (hW : (rest.map fun v => v.category).sum ≤ 8) (hdg : decode cc pc = .ok (.invokespecial index, 3)) (hf : cells + mc ≤ R.cells ∧ slots + ms ≤ R.slots)
    (kk : ∀ (u : S) (H1 : Heap) (locs1 : List Loc), post () u → va_P D cl ((wr ++ w1 u) ++ pl) H1 → va_D A ((wr ++ w1 u) ++ pl) → va_S A s.heap H1 locs1 → W p l e R s m args below meth c H1 locs1 (cells + mc) (slots + ms) Q (F0 m (pc + 3) ls (rest))) :
    W p l e R s m args below meth c H locs cells slots Q (F0 m pc ls st0) := by
  refine XM.backQ (rest := rest) hXk hM hK hP hD hS hA hX isC isR hC hR hn1 hn2 hdis (fun Pc Qc hMet hbl hPc => ?_) (fun r u H1 locs1 h1 h2 h3 h4 => ?_)
  · exact va_runI (As := As) (rest := rest) CF hMet hcw ⟨hbl, hPc⟩ rfl hn hsize hst (lv_room hW) hdg hf
  · exact kk u H1 locs1 h1 h2 h3 h4
end XTailCallsI
/-! THE LAW: what stands between two calls -/
def LA (nA : Nat) (bal balM : Nat → Int32) (cw : Nat → Int32) (lc : Nat → Nat) (z : Nat → Bool) : Prop := nA ≤ 24 ∧ xCode cw lc z ∧ (∀ a, nA ≤ a → lc a = 0 ∧ z a = false) ∧ ∀ a, a < nA → balM a = bal a
def LInv (nA : Nat) (bal balM : Nat → Int32) (cw : Nat → Int32) (lc : Nat → Nat) (z : Nat → Bool) (kn : Nat) (σ : Int64 → Int32) (sl : Nat → Int64) (nu ka kN kv lf lfM : Nat → Int32) (ln : Nat) (rf ar : Nat → Int32) (rn sn : Nat) (lu lr f5 f3 : Int32) : Prop :=
  LA nA bal balM cw lc z ∧ (ST sl nu kn σ ∧ MST ka kN kv kn σ) ∧ (ln ≤ 300 ∧ ∀ k, k < ln → lfM k = lf k) ∧ (rn ≤ 8 ∧ ∀ k, k < rn → ar k = rf k) ∧ sn ≤ 32 ∧ lu = f5 ∧ lr = f3
theorem l_sum_congr {f g : Nat → Int32} : ∀ n, (∀ a, a < n → f a = g a) → l_sum f n = l_sum g n := by
  intro n
  induction n with
  | zero => intro _; rfl
  | succ n ih =>
    intro h
    show l_sum f n + f n = l_sum g n + g n
    rw [ih (fun a ha => h a (by omega)), h n (Nat.lt_succ_self n)]
section La
variable {nA : Nat} {bal balM : Nat → Int32} {cw : Nat → Int32} {lc : Nat → Nat} {z : Nat → Bool}
theorem la_sum (h : LA nA bal balM cw lc z) : l_sum balM nA = l_sum bal nA := l_sum_congr nA h.2.2.2
theorem la_open (h : LA nA bal balM cw lc z) {x : Int32} {nA2 : Nat} {bal2 balM2 : Nat → Int32} (e1 : nA2 = if nA < 24 ∧ (l_sum bal nA).toInt64 + x.toInt64 ≤ 2147483647 then nA + 1 else nA) (e2 : bal2 = if nA < 24 ∧ (l_sum bal nA).toInt64 + x.toInt64 ≤ 2147483647 then upd bal nA x else bal) (e3 : balM2 = if nA < 24 ∧ (l_sum bal nA).toInt64 + x.toInt64 ≤ 2147483647 then upd balM nA x else balM) : LA nA2 bal2 balM2 cw lc z := by
  obtain ⟨h1, h2, h3, h4⟩ := h
  by_cases c : nA < 24 ∧ (l_sum bal nA).toInt64 + x.toInt64 ≤ 2147483647
  · rw [if_pos c] at e1 e2 e3
    subst e1 e2 e3
    exact ⟨by omega, h2, fun a ha => h3 a (by omega), ag_push h4 rfl⟩
  · rw [if_neg c] at e1 e2 e3
    subst e1 e2 e3
    exact ⟨h1, h2, h3, h4⟩
theorem la_lc (h : LA nA bal balM cw lc z) {P : Prop} [Decidable P] : (if P then va_up lc nA 0 else lc) = lc := by
  split
  · funext a
    by_cases c : a = nA
    · subst c; rw [va_up_at, (h.2.2.1 _ (Nat.le_refl _)).1]
    · rw [m_upne c]
  · rfl
theorem la_z (h : LA nA bal balM cw lc z) {P : Prop} [Decidable P] : (if P then va_up z nA false else z) = z := by
  split
  · funext a
    by_cases c : a = nA
    · subst c; rw [va_up_at, (h.2.2.1 _ (Nat.le_refl _)).2]
    · rw [m_upne c]
  · rfl
theorem la_code (h : LA nA bal balM cw lc z) {a : Nat} {w : Int32} (ha : a < nA) (hz : z a = false) : LA nA bal balM (if lc a < 160 then upd cw (a * 160 + lc a) w else cw) (if lc a < 160 then va_up lc a (lc a + 1) else lc) z := by
  obtain ⟨h1, h2, h3, h4⟩ := h
  by_cases c : lc a < 160
  · rw [if_pos c, if_pos c]
    refine ⟨h1, fun b hb => ?_, fun b hb => ?_, h4⟩
    · by_cases c2 : b = a
      · subst c2; rw [va_up_at]; exact ⟨by omega, fun q => by rw [hz] at q; cases q⟩
      · rw [m_upne c2]
        refine ⟨(h2 b hb).1, fun q k hk => ?_⟩
        have hbl := (h2 b hb).1
        rw [pk_un (by
          rcases Nat.lt_or_gt_of_ne c2 with g | g
          · have : (b + 1) * 160 ≤ a * 160 := Nat.mul_le_mul_right 160 g
            omega
          · have : (a + 1) * 160 ≤ b * 160 := Nat.mul_le_mul_right 160 g
            omega)]
        exact (h2 b hb).2 q k hk
    · rw [m_upne (by omega)]; exact h3 b hb
  · rw [if_neg c, if_neg c]; exact ⟨h1, h2, h3, h4⟩
theorem wBad_all {cw : Nat → Int32} {a len : Nat} : ∀ n k, wBad cw a len k n = none → ∀ j, j < n → wGood (cw (a * 160 + (k + j))) len = true := by
  intro n
  induction n with
  | zero => intro k _ j hj; exact absurd hj (Nat.not_lt_zero j)
  | succ n ih =>
    intro k h j hj
    unfold wBad at h
    split at h
    · next g =>
      cases j with
      | zero => exact g
      | succ j =>
        have := ih (k + 1) h j (by omega)
        rwa [show k + 1 + j = k + (j + 1) from by omega] at this
    · cases h
theorem la_seal (h : LA nA bal balM cw lc z) {a : Nat} (ha : a < nA) (hz : z a = false) : LA nA bal balM cw (match wBad cw a (lc a) 0 (lc a) with | none => lc | some _ => va_up lc a 0) (match wBad cw a (lc a) 0 (lc a) with | none => va_up z a true | some _ => z) := by
  obtain ⟨h1, h2, h3, h4⟩ := h
  cases e : wBad cw a (lc a) 0 (lc a) with
  | none =>
    show LA nA bal balM cw lc (va_up z a true)
    refine ⟨h1, fun b hb => ?_, fun b hb => ?_, h4⟩
    · refine ⟨(h2 b hb).1, fun q k hk => ?_⟩
      by_cases c : b = a
      · subst c
        have := wBad_all _ _ e k hk
        rwa [Nat.zero_add] at this
      · rw [m_upne c] at q; exact (h2 b hb).2 q k hk
    · rw [m_upne (by omega)]; exact h3 b hb
  | some k9 =>
    show LA nA bal balM cw (va_up lc a 0) z
    refine ⟨h1, fun b hb => ?_, fun b hb => ?_, h4⟩
    · by_cases c : b = a
      · subst c; rw [va_up_at]; exact ⟨by omega, fun q => by rw [hz] at q; cases q⟩
      · rw [m_upne c]; exact h2 b hb
    · rw [m_upne (by omega)]; exact h3 b hb
end La
theorem lw_acc (nA : Nat) (x : Int32) (z : Nat → Bool) (h : nA ≤ 24) : xHas nA x = false ∨ (∃ a, x = nI a ∧ a < nA ∧ z a = true) ∨ ∃ a, x = nI a ∧ a < nA ∧ z a = false := by
  rcases Bool.eq_false_or_eq_true (xHas nA x) with g | g
  · have q := xHas_ix g (by omega)
    rcases Bool.eq_false_or_eq_true (z x.toNatClampNeg) with c | c
    · exact Or.inr (Or.inl ⟨_, q.1, q.2, c⟩)
    · exact Or.inr (Or.inr ⟨_, q.1, q.2, c⟩)
  · exact Or.inl g
theorem lw_has (nA : Nat) (x : Int32) (h : nA ≤ 2 ^ 30) : xHas nA x = false ∨ ∃ a, x = nI a ∧ a < nA := by
  rcases Bool.eq_false_or_eq_true (xHas nA x) with g | g
  · exact Or.inr ⟨_, xHas_ix g (by omega)⟩
  · exact Or.inl g
theorem lw_tr (nA : Nat) (x y v w : Int32) (bal : Nat → Int32) (h : nA ≤ 24) : xHas nA x = false ∨ (∃ a, x = nI a ∧ a < nA ∧ xHas nA y = false) ∨ (∃ a b, x = nI a ∧ a < nA ∧ y = nI b ∧ b < nA ∧ xHas nA y = true ∧ (v < 0 ∨ bal a < v)) ∨ (∃ a b, x = nI a ∧ a < nA ∧ y = nI b ∧ b < nA ∧ xHas nA y = true ∧ ¬ v < 0 ∧ ¬ bal a < v ∧ (w < 0 ∨ 10000 < w)) ∨ ∃ a b g, x = nI a ∧ a < nA ∧ y = nI b ∧ b < nA ∧ ¬ v < 0 ∧ ¬ bal a < v ∧ w = nI g ∧ g ≤ 10000 := by
  rcases Bool.eq_false_or_eq_true (xHas nA x) with g | g
  · have q := xHas_ix g (by omega)
    rcases Bool.eq_false_or_eq_true (xHas nA y) with g2 | g2
    · have q2 := xHas_ix g2 (by omega)
      by_cases c1 : v < 0 ∨ bal x.toNatClampNeg < v
      · exact Or.inr (Or.inr (Or.inl ⟨_, _, q.1, q.2, q2.1, q2.2, g2, c1⟩))
      · have c2 : ¬ v < 0 := fun z => c1 (Or.inl z)
        have c3 : ¬ bal x.toNatClampNeg < v := fun z => c1 (Or.inr z)
        by_cases c4 : w < 0 ∨ 10000 < w
        · exact Or.inr (Or.inr (Or.inr (Or.inl ⟨_, _, q.1, q.2, q2.1, q2.2, g2, c2, c3, c4⟩)))
        · obtain ⟨k, hk, e⟩ := nI_of (fun z => c4 (Or.inl z))
          refine Or.inr (Or.inr (Or.inr (Or.inr ⟨_, _, k, q.1, q.2, q2.1, q2.2, c2, c3, e, ?_⟩)))
          rcases Nat.lt_or_ge 10000 k with g9 | g9
          · exact absurd (Or.inr (by rw [e]; exact nI_lt (a := 10000) g9 hk)) c4
          · exact g9
    · exact Or.inr (Or.inl ⟨_, q.1, q.2, g2⟩)
  · exact Or.inl g
theorem lg_cmp_rf (a : Int64) : lg_cmp a a = 0 := by unfold lg_cmp; simp
theorem x_out {fo : Nat → Int64} {v : Int64} : lg_cmp (vp_updL fo 0 v 0) v = 0 := by
  rw [show vp_updL fo 0 v 0 = v from by simp [vp_updL]]; exact lg_cmp_rf v
/-- what both sides come to is the same -/
theorem lw_trans {cw : Nat → Int32} {lc : Nat → Nat} {z : Nat → Bool} {nA fr ac g rn : Nat} {v : Int32} {rf ar bal balM : Nat → Int32} {σ : Int64 → Int32} {kn : Nat} {lf lfM : Nat → Int32} {ln : Nat} {te ta : Int32} {tg : Nat} {bal2 : Nat → Int32} {σ2 : Int64 → Int32} {kn2 : Nat} {lf2 : Nat → Int32} {ln2 : Nat}
    {skm : Nat → Int32} {htm ppm ggm rcm : Nat → Nat} {crm vvm gvm : Nat → Int32} {gcm : Nat → Nat} {oBm oAm oNm oVm : Nat → Int32} {oKm oLm : Nat → Nat} {balm kam kNm kvm : Nat → Int32} {knm : Nat} {lfm : Nat → Int32} {lnm : Nat} {em rm lm : Int32}
    (h : LA nA bal balM cw lc z) (hac : ac < nA) (hfr : fr < nA) (hrn : rn ≤ 8) (har : ∀ k, k < rn → ar k = rf k) (hlf : ∀ k, k < ln → lfM k = lf k)
    (hres : xRes (xGo cw lc z nA 7 fr ac v g rf rn (bal, σ, kn, lf, ln)) te ta tg) (hseq : SEq nA (bal2, σ2, kn2, lf2, ln2) (xGo cw lc z nA 7 fr ac v g rf rn (bal, σ, kn, lf, ln)).2.2.2)
    (hok : mOK cw lc z nA (xGo cw lc z nA 7 fr ac v g ar rn (balM, σ, kn, lfM, ln)) 0 skm htm ppm ggm rcm crm vvm gvm gcm oBm oAm oNm oVm oKm oLm balm kam kNm kvm knm lfm lnm em rm lm) :
    te = em ∧ ta = rm ∧ lm = nI tg ∧ kn2 = knm ∧ ln2 = lnm ∧ (∀ a, a < nA → balm a = bal2 a) ∧ (∀ k, k < ln2 → lfm k = lf2 k) ∧ MST kam kNm kvm kn2 σ2 ∧ ln2 ≤ 300 := by
  obtain ⟨h1, h2, h3, h4⟩ := h
  obtain ⟨σ3, e1, e2, e3, e4, e5, e6⟩ := hok
  obtain ⟨r1, r2, r3⟩ := hres
  obtain ⟨q1, q2, q3, q4⟩ := xGo_congr h2 h1 7 fr ac v g ar rf rn (balM, σ, kn, lfM, ln) (bal, σ, kn, lf, ln) hfr hac hrn har ⟨h4, rfl, rfl, rfl, hlf⟩
  have t := e4.tr q4
  obtain ⟨s1, s2, s3, s4, s5⟩ := t
  obtain ⟨u1, u2, u3, u4, u5⟩ := hseq
  dsimp only at s1 s2 s3 s4 s5 u1 u2 u3 u4 u5
  have k1 : kn2 = knm := u3.trans s3.symm
  have k2 : ln2 = lnm := u4.trans s4.symm
  have k3 : σ2 = σ3 := u2.trans s2.symm
  refine ⟨by rw [r1, e1, q1], by rw [r2, e2, q2], by rw [e3, q3, r3], k1, k2, fun a ha => (s1 a ha).trans (u1 a ha).symm, fun k hk => (s5 k (by rw [← k2]; exact hk)).trans (u5 k hk).symm, by rw [k1, k3]; exact e5, by rw [k2]; exact e6⟩
section XScript
variable {p : Program} {l : Launch} {e : Env} {R : Room} {s : State} {m : MethodId} {args : Array Value} {below : List Frame} {meth : Method} {c : Code} {H H0 : Heap} {locs : List Loc} {cells slots : Nat} {Q : State → Prop} {cc : ByteArray} {pc : Nat} {ls : Array Slot} {rest : List Value} {A : Nat → Prop}
theorem x_sld (hexec : p.tables.exec = Jvm.exec) (hb : c.code = cc) {b L : Nat} {xs : Nat → Int32} (hX : va_X b L xs s H0) (hbl : b < H0.size) (hbA : ¬ A b) (hS : va_S A H0 H locs) {i : Int32} {j : Nat} (hi : i = nI j) (hj : j < L) (hn : L < 2 ^ 31) (hdg : decode cc pc = .ok (.iaload, 1))
    (kk : W p l e R s m args below meth c H locs cells slots Q (F0 m (pc + 1) ls (.int (xs j) :: rest))) : W p l e R s m args below meth c H locs cells slots Q (F0 m pc ls (.int i :: .ref b :: rest)) := by
  have hc : i.toNatClampNeg = j := by rw [hi]; exact nI_clamp (Nat.lt_trans hj hn)
  refine va_sld hexec hb hX hbl hbA hS (by rw [hi]; exact vp_in_nI hj hn) hdg ?_
  rw [hc]; exact kk
theorem x_slen (hexec : p.tables.exec = Jvm.exec) (hb : c.code = cc) {b L : Nat} {xs : Nat → Int32} (hX : va_X b L xs s H0) (hbl : b < H0.size) (hbA : ¬ A b) (hS : va_S A H0 H locs) (hdg : decode cc pc = .ok (.arraylength, 1))
    (kk : W p l e R s m args below meth c H locs cells slots Q (F0 m (pc + 1) ls (.int (nI L) :: rest))) : W p l e R s m args below meth c H locs cells slots Q (F0 m pc ls (.ref b :: rest)) := va_slen hexec hb hX hbl hbA hS hdg kk
end XScript
def LAt (l : Launch) (dC : Nat → ClassId) (dI : Nat → Nat → Nat) (kI kJ kZ : ClassId) (p : Program) (e : Env) (R : Room) (s : State) (m : MethodId) (args : Array Value) (below : List Frame) (meth : Method) (c : Code) (A : Nat → Prop) (Q : State → Prop) (x0 qc qb qs qk r0 rs rs1 ra ra1 rb qb1 qs1 qs2 qs3 qs4 qk1 qc1 qc2 qc3 m0 b1 b2 b3 b4 b5 b6 b7 b8 b9 b10 b11 b12 b13 b14 b15 b16 b17 b18 b19 b20 b21 b22 b23 b24 w0 sc : Nat) (iv : Value) (n : Nat) (f : Nat → Int32) (i cells slots pc : Nat) : Prop :=
  ∀ (lu : Int32) (lr : Int32) (F1 : Int32) (F2 : Int32) (F3 : Int32) (F4 : Int32) (F5 : Int32) (F6 : Int32) (F7 : Int32) (F8 : Int32) (F9 : Int32) (sf : Nat → Int32) (sn : Nat) (rf : Nat → Int32) (rn : Nat) (bb : Nat → Int32) (bal : Nat → Int32) (nA : Nat) (kn : Nat) (ch : Nat) (sl : Nat → Int64) (nu : Nat → Int32) (cs : Nat → Int64) (nb : Nat → Int32) (lf : Nat → Int32) (ln : Nat) (cw : Nat → Int32) (lc : Nat → Nat) (z : Nat → Bool) (f0 : Int32) (f1 : Int32) (f2 : Int32) (f3 : Int32) (f4 : Int32) (f5 : Int32) (balM : Nat → Int32) (lfM : Nat → Int32) (ka : Nat → Int32) (kN : Nat → Int32) (kv : Nat → Int32) (oB : Nat → Int32) (oA : Nat → Int32) (oN : Nat → Int32) (oV : Nat → Int32) (oK : Nat → Nat) (oL : Nat → Nat) (sk : Nat → Int32) (ht : Nat → Nat) (pp : Nat → Nat) (gv : Nat → Int32) (gc : Nat → Nat) (cr : Nat → Int32) (vv : Nat → Int32) (gg : Nat → Nat) (rc : Nat → Nat) (ar : Nat → Int32) (fo : Nat → Int64) (σ : Int64 → Int32) (pl : va_W), LInv nA bal balM cw lc z kn σ sl nu ka kN kv lf lfM ln rf ar rn sn lu lr f5 f3 → xChain kI qc qb qs qk 7 iv pl → ∀ (H : Heap) (locs : List Loc), va_P (dC, dI) xCl ([(x0, .inr (5, [.ref qc, .ref qb, .ref qs, .ref qk, .ref r0, .int lu, .int lr])), (r0, .inr (3, [.ref qc, .ref qb, .ref qs, .ref qk, iv, .ref rs, .ref ra, .ref rb, .int F1, .int F2, .int F3, .int F4, .int F5, .int F6, .int F7, .int F8, .int F9])), (rs, .inr (2, [.ref rs1, .int (nI sn)])), (rs1, .inl (kI, 32, .inl sf)), (ra, .inr (2, [.ref ra1, .int (nI rn)])), (ra1, .inl (kI, 8, .inl rf)), (rb, .inl (kI, 24, .inl bb)), (qb, .inr (0, [.ref qb1, .int (nI nA)])), (qb1, .inl (kI, 24, .inl bal)), (qs, .inr (4, [.ref qs1, .ref qs2, .int (nI kn), .ref qs3, .ref qs4, .int (nI ch)])), (qs1, .inl (kJ, 500, .inr (.inl sl))), (qs2, .inl (kI, 500, .inl nu)), (qs3, .inl (kJ, 500, .inr (.inl cs))), (qs4, .inl (kI, 500, .inl nb)), (qk, .inr (2, [.ref qk1, .int (nI ln)])), (qk1, .inl (kI, 300, .inl lf)), (qc, .inr (1, [.ref qc1, .ref qc2, .ref qc3])), (qc1, .inl (kI, 3840, .inl cw)), (qc2, .inl (kI, 24, .inl (fun j => nI (lc j)))), (qc3, .inl (kZ, 24, .inl (fun j => x_b (z j)))), (m0, .inr (6, [.int f0, .int (nI nA), .ref b1, .ref b2, .ref b3, .ref b4, .ref b5, .ref b6, .ref b7, .int (nI kn), .ref b8, .int (nI ln), .ref b9, .ref b10, .ref b11, .ref b12, .ref b13, .ref b14, .int f1, .ref b15, .ref b16, .ref b17, .ref b18, .ref b19, .ref b20, .ref b21, .ref b22, .ref b23, .ref b24, .int (nI rn), .int f2, .int f3, .int f4, .int f5])), (b1, .inl (kI, 24, .inl balM)), (b2, .inl (kI, 3840, .inl cw)), (b3, .inl (kI, 24, .inl (fun j => nI (lc j)))), (b4, .inl (kZ, 24, .inl (fun j => x_b (z j)))), (b5, .inl (kI, 500, .inl ka)), (b6, .inl (kI, 500, .inl kN)), (b7, .inl (kI, 500, .inl kv)), (b8, .inl (kI, 300, .inl lfM)), (b9, .inl (kI, 192, .inl oB)), (b10, .inl (kI, 4000, .inl oA)), (b11, .inl (kI, 4000, .inl oN)), (b12, .inl (kI, 4000, .inl oV)), (b13, .inl (kI, 8, .inl (fun j => nI (oK j)))), (b14, .inl (kI, 8, .inl (fun j => nI (oL j)))), (b15, .inl (kI, 256, .inl sk)), (b16, .inl (kI, 8, .inl (fun j => nI (ht j)))), (b17, .inl (kI, 8, .inl (fun j => nI (pp j)))), (b18, .inl (kI, 64, .inl gv)), (b19, .inl (kI, 8, .inl (fun j => nI (gc j)))), (b20, .inl (kI, 8, .inl cr)), (b21, .inl (kI, 8, .inl vv)), (b22, .inl (kI, 8, .inl (fun j => nI (gg j)))), (b23, .inl (kI, 8, .inl (fun j => nI (rc j)))), (b24, .inl (kI, 8, .inl ar)), (w0, .inl (kJ, 1, .inr (.inl fo)))] ++ pl) H → va_D A ([(x0, .inr (5, [.ref qc, .ref qb, .ref qs, .ref qk, .ref r0, .int lu, .int lr])), (r0, .inr (3, [.ref qc, .ref qb, .ref qs, .ref qk, iv, .ref rs, .ref ra, .ref rb, .int F1, .int F2, .int F3, .int F4, .int F5, .int F6, .int F7, .int F8, .int F9])), (rs, .inr (2, [.ref rs1, .int (nI sn)])), (rs1, .inl (kI, 32, .inl sf)), (ra, .inr (2, [.ref ra1, .int (nI rn)])), (ra1, .inl (kI, 8, .inl rf)), (rb, .inl (kI, 24, .inl bb)), (qb, .inr (0, [.ref qb1, .int (nI nA)])), (qb1, .inl (kI, 24, .inl bal)), (qs, .inr (4, [.ref qs1, .ref qs2, .int (nI kn), .ref qs3, .ref qs4, .int (nI ch)])), (qs1, .inl (kJ, 500, .inr (.inl sl))), (qs2, .inl (kI, 500, .inl nu)), (qs3, .inl (kJ, 500, .inr (.inl cs))), (qs4, .inl (kI, 500, .inl nb)), (qk, .inr (2, [.ref qk1, .int (nI ln)])), (qk1, .inl (kI, 300, .inl lf)), (qc, .inr (1, [.ref qc1, .ref qc2, .ref qc3])), (qc1, .inl (kI, 3840, .inl cw)), (qc2, .inl (kI, 24, .inl (fun j => nI (lc j)))), (qc3, .inl (kZ, 24, .inl (fun j => x_b (z j)))), (m0, .inr (6, [.int f0, .int (nI nA), .ref b1, .ref b2, .ref b3, .ref b4, .ref b5, .ref b6, .ref b7, .int (nI kn), .ref b8, .int (nI ln), .ref b9, .ref b10, .ref b11, .ref b12, .ref b13, .ref b14, .int f1, .ref b15, .ref b16, .ref b17, .ref b18, .ref b19, .ref b20, .ref b21, .ref b22, .ref b23, .ref b24, .int (nI rn), .int f2, .int f3, .int f4, .int f5])), (b1, .inl (kI, 24, .inl balM)), (b2, .inl (kI, 3840, .inl cw)), (b3, .inl (kI, 24, .inl (fun j => nI (lc j)))), (b4, .inl (kZ, 24, .inl (fun j => x_b (z j)))), (b5, .inl (kI, 500, .inl ka)), (b6, .inl (kI, 500, .inl kN)), (b7, .inl (kI, 500, .inl kv)), (b8, .inl (kI, 300, .inl lfM)), (b9, .inl (kI, 192, .inl oB)), (b10, .inl (kI, 4000, .inl oA)), (b11, .inl (kI, 4000, .inl oN)), (b12, .inl (kI, 4000, .inl oV)), (b13, .inl (kI, 8, .inl (fun j => nI (oK j)))), (b14, .inl (kI, 8, .inl (fun j => nI (oL j)))), (b15, .inl (kI, 256, .inl sk)), (b16, .inl (kI, 8, .inl (fun j => nI (ht j)))), (b17, .inl (kI, 8, .inl (fun j => nI (pp j)))), (b18, .inl (kI, 64, .inl gv)), (b19, .inl (kI, 8, .inl (fun j => nI (gc j)))), (b20, .inl (kI, 8, .inl cr)), (b21, .inl (kI, 8, .inl vv)), (b22, .inl (kI, 8, .inl (fun j => nI (gg j)))), (b23, .inl (kI, 8, .inl (fun j => nI (rc j)))), (b24, .inl (kI, 8, .inl ar)), (w0, .inl (kJ, 1, .inr (.inl fo)))] ++ pl) → va_S A s.heap H locs → ∀ ls, lv_has ls 7 [(0, .ref sc), (1, .ref x0), (2, .ref m0), (3, .ref w0), (4, .int (nI i))] → W p l e R s m args below meth c H locs cells slots Q (F0 m pc ls [])
theorem lw_len {n i : Nat} (hn : n ≤ 2560) (hi : i ≤ 2565) : nI n - 5 < nI i ↔ n < i + 5 := by
  rcases Nat.lt_or_ge n 5 with g | g
  · refine ⟨fun _ => by omega, fun _ => ?_⟩
    have h0 : nI n - 5 < 0 := by
      rcases (show n = 0 ∨ n = 1 ∨ n = 2 ∨ n = 3 ∨ n = 4 by omega) with rfl | rfl | rfl | rfl | rfl <;> decide
    exact Int32.lt_of_lt_of_le h0 (Int32.not_lt.mp (x_nlt0 (by omega)))
  · have e : nI n - 5 = nI (n - 5) := pk_sub (b := 5) g
    rw [e, nI_ltI (by omega) (by omega)]
    omega
