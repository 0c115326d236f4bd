/-! decode rows of the law -/
theorem d_Law_law_0 : decode code 0 = .ok (.new 8, 3) := by decide +kernel
theorem d_Law_law_3 : decode code 3 = .ok (.dup, 1) := by decide +kernel
theorem d_Law_law_4 : decode code 4 = .ok (.invokespecial 88, 3) := by decide +kernel
theorem d_Law_law_7 : decode code 7 = .ok (.astore_n 1, 1) := by decide +kernel
theorem d_Law_law_8 : decode code 8 = .ok (.new 89, 3) := by decide +kernel
theorem d_Law_law_11 : decode code 11 = .ok (.dup, 1) := by decide +kernel
theorem d_Law_law_12 : decode code 12 = .ok (.invokespecial 91, 3) := by decide +kernel
theorem d_Law_law_15 : decode code 15 = .ok (.astore_n 2, 1) := by decide +kernel
theorem d_Law_law_16 : decode code 16 = .ok (.iconst 1, 1) := by decide +kernel
theorem d_Law_law_17 : decode code 17 = .ok (.newarray .long, 2) := by decide +kernel
theorem d_Law_law_19 : decode code 19 = .ok (.astore_n 3, 1) := by decide +kernel
theorem d_Law_law_20 : decode code 20 = .ok (.iconst 0, 1) := by decide +kernel
theorem d_Law_law_21 : decode code 21 = .ok (.istore 4, 2) := by decide +kernel
theorem d_Law_law_23 : decode code 23 = .ok (.iload 4, 2) := by decide +kernel
theorem d_Law_law_25 : decode code 25 = .ok (.aload_n 0, 1) := by decide +kernel
theorem d_Law_law_26 : decode code 26 = .ok (.arraylength, 1) := by decide +kernel
theorem d_Law_law_27 : decode code 27 = .ok (.iconst 4, 1) := by decide +kernel
theorem d_Law_law_28 : decode code 28 = .ok (.isub, 1) := by decide +kernel
theorem d_Law_law_29 : decode code 29 = .ok (.if_icmp .gt 1225, 3) := by decide +kernel
theorem d_Law_law_32 : decode code 32 = .ok (.aload_n 0, 1) := by decide +kernel
theorem d_Law_law_33 : decode code 33 = .ok (.iload 4, 2) := by decide +kernel
theorem d_Law_law_35 : decode code 35 = .ok (.iaload, 1) := by decide +kernel
theorem d_Law_law_36 : decode code 36 = .ok (.bipush 31, 2) := by decide +kernel
theorem d_Law_law_38 : decode code 38 = .ok (.iand, 1) := by decide +kernel
theorem d_Law_law_39 : decode code 39 = .ok (.tableswitch 1209 0 19 #[93, 193, 293, 389, 433, 489, 552, 615, 706, 750, 817, 841, 865, 889, 933, 969, 1005, 1065, 1109, 1165], 93) := by decide +kernel
theorem d_Law_law_132 : decode code 132 = .ok (.aload_n 1, 1) := by decide +kernel
theorem d_Law_law_133 : decode code 133 = .ok (.aload_n 0, 1) := by decide +kernel
theorem d_Law_law_134 : decode code 134 = .ok (.iload 4, 2) := by decide +kernel
theorem d_Law_law_136 : decode code 136 = .ok (.iconst 1, 1) := by decide +kernel
theorem d_Law_law_137 : decode code 137 = .ok (.iadd, 1) := by decide +kernel
theorem d_Law_law_138 : decode code 138 = .ok (.iaload, 1) := by decide +kernel
theorem d_Law_law_139 : decode code 139 = .ok (.i2l, 1) := by decide +kernel
theorem d_Law_law_140 : decode code 140 = .ok (.bipush 32, 2) := by decide +kernel
theorem d_Law_law_142 : decode code 142 = .ok (.lshl, 1) := by decide +kernel
theorem d_Law_law_143 : decode code 143 = .ok (.aload_n 0, 1) := by decide +kernel
theorem d_Law_law_144 : decode code 144 = .ok (.iload 4, 2) := by decide +kernel
theorem d_Law_law_146 : decode code 146 = .ok (.iconst 2, 1) := by decide +kernel
theorem d_Law_law_147 : decode code 147 = .ok (.iadd, 1) := by decide +kernel
theorem d_Law_law_148 : decode code 148 = .ok (.iaload, 1) := by decide +kernel
theorem d_Law_law_149 : decode code 149 = .ok (.i2l, 1) := by decide +kernel
theorem d_Law_law_150 : decode code 150 = .ok (.ldc2_w 92, 3) := by decide +kernel
theorem d_Law_law_153 : decode code 153 = .ok (.land, 1) := by decide +kernel
theorem d_Law_law_154 : decode code 154 = .ok (.lor, 1) := by decide +kernel
theorem d_Law_law_155 : decode code 155 = .ok (.aload_n 0, 1) := by decide +kernel
theorem d_Law_law_156 : decode code 156 = .ok (.iload 4, 2) := by decide +kernel
theorem d_Law_law_158 : decode code 158 = .ok (.iconst 3, 1) := by decide +kernel
theorem d_Law_law_159 : decode code 159 = .ok (.iadd, 1) := by decide +kernel
theorem d_Law_law_160 : decode code 160 = .ok (.iaload, 1) := by decide +kernel
theorem d_Law_law_161 : decode code 161 = .ok (.aload_n 3, 1) := by decide +kernel
theorem d_Law_law_162 : decode code 162 = .ok (.invokestatic 94, 3) := by decide +kernel
theorem d_Law_law_165 : decode code 165 = .ok (.istore 5, 2) := by decide +kernel
theorem d_Law_law_167 : decode code 167 = .ok (.aload_n 2, 1) := by decide +kernel
theorem d_Law_law_168 : decode code 168 = .ok (.aload_n 0, 1) := by decide +kernel
theorem d_Law_law_169 : decode code 169 = .ok (.iload 4, 2) := by decide +kernel
theorem d_Law_law_171 : decode code 171 = .ok (.iconst 1, 1) := by decide +kernel
theorem d_Law_law_172 : decode code 172 = .ok (.iadd, 1) := by decide +kernel
theorem d_Law_law_173 : decode code 173 = .ok (.iaload, 1) := by decide +kernel
theorem d_Law_law_174 : decode code 174 = .ok (.i2l, 1) := by decide +kernel
theorem d_Law_law_175 : decode code 175 = .ok (.bipush 32, 2) := by decide +kernel
theorem d_Law_law_177 : decode code 177 = .ok (.lshl, 1) := by decide +kernel
theorem d_Law_law_178 : decode code 178 = .ok (.aload_n 0, 1) := by decide +kernel
theorem d_Law_law_179 : decode code 179 = .ok (.iload 4, 2) := by decide +kernel
theorem d_Law_law_181 : decode code 181 = .ok (.iconst 2, 1) := by decide +kernel
theorem d_Law_law_182 : decode code 182 = .ok (.iadd, 1) := by decide +kernel
theorem d_Law_law_183 : decode code 183 = .ok (.iaload, 1) := by decide +kernel
theorem d_Law_law_184 : decode code 184 = .ok (.i2l, 1) := by decide +kernel
theorem d_Law_law_185 : decode code 185 = .ok (.ldc2_w 92, 3) := by decide +kernel
theorem d_Law_law_188 : decode code 188 = .ok (.land, 1) := by decide +kernel
theorem d_Law_law_189 : decode code 189 = .ok (.lor, 1) := by decide +kernel
theorem d_Law_law_190 : decode code 190 = .ok (.aload_n 0, 1) := by decide +kernel
theorem d_Law_law_191 : decode code 191 = .ok (.iload 4, 2) := by decide +kernel
theorem d_Law_law_193 : decode code 193 = .ok (.iconst 3, 1) := by decide +kernel
theorem d_Law_law_194 : decode code 194 = .ok (.iadd, 1) := by decide +kernel
theorem d_Law_law_195 : decode code 195 = .ok (.iaload, 1) := by decide +kernel
theorem d_Law_law_196 : decode code 196 = .ok (.invokevirtual 99, 3) := by decide +kernel
theorem d_Law_law_199 : decode code 199 = .ok (.istore 6, 2) := by decide +kernel
theorem d_Law_law_201 : decode code 201 = .ok (.aload_n 2, 1) := by decide +kernel
theorem d_Law_law_202 : decode code 202 = .ok (.invokevirtual 100, 3) := by decide +kernel
theorem d_Law_law_205 : decode code 205 = .ok (.iload 5, 2) := by decide +kernel
theorem d_Law_law_207 : decode code 207 = .ok (.if_icmp .eq 5, 3) := by decide +kernel
theorem d_Law_law_210 : decode code 210 = .ok (.iconst 0, 1) := by decide +kernel
theorem d_Law_law_211 : decode code 211 = .ok (.ireturn, 1) := by decide +kernel
theorem d_Law_law_212 : decode code 212 = .ok (.iload 5, 2) := by decide +kernel
theorem d_Law_law_214 : decode code 214 = .ok (.ifCond .ne 15, 3) := by decide +kernel
theorem d_Law_law_217 : decode code 217 = .ok (.aload_n 3, 1) := by decide +kernel
theorem d_Law_law_218 : decode code 218 = .ok (.iconst 0, 1) := by decide +kernel
theorem d_Law_law_219 : decode code 219 = .ok (.laload, 1) := by decide +kernel
theorem d_Law_law_220 : decode code 220 = .ok (.iload 6, 2) := by decide +kernel
theorem d_Law_law_222 : decode code 222 = .ok (.i2l, 1) := by decide +kernel
theorem d_Law_law_223 : decode code 223 = .ok (.lcmp, 1) := by decide +kernel
theorem d_Law_law_224 : decode code 224 = .ok (.ifCond .eq 5, 3) := by decide +kernel
theorem d_Law_law_227 : decode code 227 = .ok (.iconst 0, 1) := by decide +kernel
theorem d_Law_law_228 : decode code 228 = .ok (.ireturn, 1) := by decide +kernel
theorem d_Law_law_229 : decode code 229 = .ok (.goto 1019, 3) := by decide +kernel
theorem d_Law_law_232 : decode code 232 = .ok (.aload_n 1, 1) := by decide +kernel
theorem d_Law_law_233 : decode code 233 = .ok (.aload_n 0, 1) := by decide +kernel
theorem d_Law_law_234 : decode code 234 = .ok (.iload 4, 2) := by decide +kernel
theorem d_Law_law_236 : decode code 236 = .ok (.iconst 1, 1) := by decide +kernel
theorem d_Law_law_237 : decode code 237 = .ok (.iadd, 1) := by decide +kernel
theorem d_Law_law_238 : decode code 238 = .ok (.iaload, 1) := by decide +kernel
theorem d_Law_law_239 : decode code 239 = .ok (.i2l, 1) := by decide +kernel
theorem d_Law_law_240 : decode code 240 = .ok (.bipush 32, 2) := by decide +kernel
theorem d_Law_law_242 : decode code 242 = .ok (.lshl, 1) := by decide +kernel
theorem d_Law_law_243 : decode code 243 = .ok (.aload_n 0, 1) := by decide +kernel
theorem d_Law_law_244 : decode code 244 = .ok (.iload 4, 2) := by decide +kernel
theorem d_Law_law_246 : decode code 246 = .ok (.iconst 2, 1) := by decide +kernel
theorem d_Law_law_247 : decode code 247 = .ok (.iadd, 1) := by decide +kernel
theorem d_Law_law_248 : decode code 248 = .ok (.iaload, 1) := by decide +kernel
theorem d_Law_law_249 : decode code 249 = .ok (.i2l, 1) := by decide +kernel
theorem d_Law_law_250 : decode code 250 = .ok (.ldc2_w 92, 3) := by decide +kernel
theorem d_Law_law_253 : decode code 253 = .ok (.land, 1) := by decide +kernel
theorem d_Law_law_254 : decode code 254 = .ok (.lor, 1) := by decide +kernel
theorem d_Law_law_255 : decode code 255 = .ok (.aload_n 0, 1) := by decide +kernel
theorem d_Law_law_256 : decode code 256 = .ok (.iload 4, 2) := by decide +kernel
theorem d_Law_law_258 : decode code 258 = .ok (.iconst 3, 1) := by decide +kernel
theorem d_Law_law_259 : decode code 259 = .ok (.iadd, 1) := by decide +kernel
theorem d_Law_law_260 : decode code 260 = .ok (.iaload, 1) := by decide +kernel
theorem d_Law_law_261 : decode code 261 = .ok (.aload_n 3, 1) := by decide +kernel
theorem d_Law_law_262 : decode code 262 = .ok (.invokestatic 103, 3) := by decide +kernel
theorem d_Law_law_265 : decode code 265 = .ok (.istore 5, 2) := by decide +kernel
theorem d_Law_law_267 : decode code 267 = .ok (.aload_n 2, 1) := by decide +kernel
theorem d_Law_law_268 : decode code 268 = .ok (.aload_n 0, 1) := by decide +kernel
theorem d_Law_law_269 : decode code 269 = .ok (.iload 4, 2) := by decide +kernel
theorem d_Law_law_271 : decode code 271 = .ok (.iconst 1, 1) := by decide +kernel
theorem d_Law_law_272 : decode code 272 = .ok (.iadd, 1) := by decide +kernel
theorem d_Law_law_273 : decode code 273 = .ok (.iaload, 1) := by decide +kernel
theorem d_Law_law_274 : decode code 274 = .ok (.i2l, 1) := by decide +kernel
theorem d_Law_law_275 : decode code 275 = .ok (.bipush 32, 2) := by decide +kernel
theorem d_Law_law_277 : decode code 277 = .ok (.lshl, 1) := by decide +kernel
theorem d_Law_law_278 : decode code 278 = .ok (.aload_n 0, 1) := by decide +kernel
theorem d_Law_law_279 : decode code 279 = .ok (.iload 4, 2) := by decide +kernel
theorem d_Law_law_281 : decode code 281 = .ok (.iconst 2, 1) := by decide +kernel
theorem d_Law_law_282 : decode code 282 = .ok (.iadd, 1) := by decide +kernel
theorem d_Law_law_283 : decode code 283 = .ok (.iaload, 1) := by decide +kernel
theorem d_Law_law_284 : decode code 284 = .ok (.i2l, 1) := by decide +kernel
theorem d_Law_law_285 : decode code 285 = .ok (.ldc2_w 92, 3) := by decide +kernel
theorem d_Law_law_288 : decode code 288 = .ok (.land, 1) := by decide +kernel
theorem d_Law_law_289 : decode code 289 = .ok (.lor, 1) := by decide +kernel
theorem d_Law_law_290 : decode code 290 = .ok (.aload_n 0, 1) := by decide +kernel
theorem d_Law_law_291 : decode code 291 = .ok (.iload 4, 2) := by decide +kernel
theorem d_Law_law_293 : decode code 293 = .ok (.iconst 3, 1) := by decide +kernel
theorem d_Law_law_294 : decode code 294 = .ok (.iadd, 1) := by decide +kernel
theorem d_Law_law_295 : decode code 295 = .ok (.iaload, 1) := by decide +kernel
theorem d_Law_law_296 : decode code 296 = .ok (.invokevirtual 105, 3) := by decide +kernel
theorem d_Law_law_299 : decode code 299 = .ok (.istore 6, 2) := by decide +kernel
theorem d_Law_law_301 : decode code 301 = .ok (.aload_n 2, 1) := by decide +kernel
theorem d_Law_law_302 : decode code 302 = .ok (.invokevirtual 100, 3) := by decide +kernel
theorem d_Law_law_305 : decode code 305 = .ok (.iload 5, 2) := by decide +kernel
theorem d_Law_law_307 : decode code 307 = .ok (.if_icmp .eq 5, 3) := by decide +kernel
theorem d_Law_law_310 : decode code 310 = .ok (.iconst 0, 1) := by decide +kernel
theorem d_Law_law_311 : decode code 311 = .ok (.ireturn, 1) := by decide +kernel
theorem d_Law_law_312 : decode code 312 = .ok (.iload 5, 2) := by decide +kernel
theorem d_Law_law_314 : decode code 314 = .ok (.ifCond .ne 15, 3) := by decide +kernel
theorem d_Law_law_317 : decode code 317 = .ok (.aload_n 3, 1) := by decide +kernel
theorem d_Law_law_318 : decode code 318 = .ok (.iconst 0, 1) := by decide +kernel
theorem d_Law_law_319 : decode code 319 = .ok (.laload, 1) := by decide +kernel
theorem d_Law_law_320 : decode code 320 = .ok (.iload 6, 2) := by decide +kernel
theorem d_Law_law_322 : decode code 322 = .ok (.i2l, 1) := by decide +kernel
theorem d_Law_law_323 : decode code 323 = .ok (.lcmp, 1) := by decide +kernel
theorem d_Law_law_324 : decode code 324 = .ok (.ifCond .eq 5, 3) := by decide +kernel
theorem d_Law_law_327 : decode code 327 = .ok (.iconst 0, 1) := by decide +kernel
theorem d_Law_law_328 : decode code 328 = .ok (.ireturn, 1) := by decide +kernel
theorem d_Law_law_329 : decode code 329 = .ok (.goto 919, 3) := by decide +kernel
theorem d_Law_law_332 : decode code 332 = .ok (.aload_n 1, 1) := by decide +kernel
theorem d_Law_law_333 : decode code 333 = .ok (.aload_n 0, 1) := by decide +kernel
theorem d_Law_law_334 : decode code 334 = .ok (.iload 4, 2) := by decide +kernel
theorem d_Law_law_336 : decode code 336 = .ok (.iconst 1, 1) := by decide +kernel
theorem d_Law_law_337 : decode code 337 = .ok (.iadd, 1) := by decide +kernel
theorem d_Law_law_338 : decode code 338 = .ok (.iaload, 1) := by decide +kernel
theorem d_Law_law_339 : decode code 339 = .ok (.ifCond .eq 7, 3) := by decide +kernel
theorem d_Law_law_342 : decode code 342 = .ok (.iconst 1, 1) := by decide +kernel
theorem d_Law_law_343 : decode code 343 = .ok (.goto 4, 3) := by decide +kernel
theorem d_Law_law_346 : decode code 346 = .ok (.iconst 0, 1) := by decide +kernel
theorem d_Law_law_347 : decode code 347 = .ok (.aload_n 0, 1) := by decide +kernel
theorem d_Law_law_348 : decode code 348 = .ok (.iload 4, 2) := by decide +kernel
theorem d_Law_law_350 : decode code 350 = .ok (.iconst 2, 1) := by decide +kernel
theorem d_Law_law_351 : decode code 351 = .ok (.iadd, 1) := by decide +kernel
theorem d_Law_law_352 : decode code 352 = .ok (.iaload, 1) := by decide +kernel
theorem d_Law_law_353 : decode code 353 = .ok (.aload_n 0, 1) := by decide +kernel
theorem d_Law_law_354 : decode code 354 = .ok (.iload 4, 2) := by decide +kernel
theorem d_Law_law_356 : decode code 356 = .ok (.iconst 3, 1) := by decide +kernel
theorem d_Law_law_357 : decode code 357 = .ok (.iadd, 1) := by decide +kernel
theorem d_Law_law_358 : decode code 358 = .ok (.iaload, 1) := by decide +kernel
theorem d_Law_law_359 : decode code 359 = .ok (.aload_n 3, 1) := by decide +kernel
theorem d_Law_law_360 : decode code 360 = .ok (.invokestatic 106, 3) := by decide +kernel
theorem d_Law_law_363 : decode code 363 = .ok (.istore 5, 2) := by decide +kernel
theorem d_Law_law_365 : decode code 365 = .ok (.aload_n 2, 1) := by decide +kernel
theorem d_Law_law_366 : decode code 366 = .ok (.aload_n 0, 1) := by decide +kernel
theorem d_Law_law_367 : decode code 367 = .ok (.iload 4, 2) := by decide +kernel
theorem d_Law_law_369 : decode code 369 = .ok (.iconst 1, 1) := by decide +kernel
theorem d_Law_law_370 : decode code 370 = .ok (.iadd, 1) := by decide +kernel
theorem d_Law_law_371 : decode code 371 = .ok (.iaload, 1) := by decide +kernel
theorem d_Law_law_372 : decode code 372 = .ok (.ifCond .eq 7, 3) := by decide +kernel
theorem d_Law_law_375 : decode code 375 = .ok (.iconst 1, 1) := by decide +kernel
theorem d_Law_law_376 : decode code 376 = .ok (.goto 4, 3) := by decide +kernel
theorem d_Law_law_379 : decode code 379 = .ok (.iconst 0, 1) := by decide +kernel
theorem d_Law_law_380 : decode code 380 = .ok (.aload_n 0, 1) := by decide +kernel
theorem d_Law_law_381 : decode code 381 = .ok (.iload 4, 2) := by decide +kernel
theorem d_Law_law_383 : decode code 383 = .ok (.iconst 2, 1) := by decide +kernel
theorem d_Law_law_384 : decode code 384 = .ok (.iadd, 1) := by decide +kernel
theorem d_Law_law_385 : decode code 385 = .ok (.iaload, 1) := by decide +kernel
theorem d_Law_law_386 : decode code 386 = .ok (.aload_n 0, 1) := by decide +kernel
theorem d_Law_law_387 : decode code 387 = .ok (.iload 4, 2) := by decide +kernel
theorem d_Law_law_389 : decode code 389 = .ok (.iconst 3, 1) := by decide +kernel
theorem d_Law_law_390 : decode code 390 = .ok (.iadd, 1) := by decide +kernel
theorem d_Law_law_391 : decode code 391 = .ok (.iaload, 1) := by decide +kernel
theorem d_Law_law_392 : decode code 392 = .ok (.invokevirtual 109, 3) := by decide +kernel
theorem d_Law_law_395 : decode code 395 = .ok (.istore 6, 2) := by decide +kernel
theorem d_Law_law_397 : decode code 397 = .ok (.aload_n 2, 1) := by decide +kernel
theorem d_Law_law_398 : decode code 398 = .ok (.invokevirtual 100, 3) := by decide +kernel
theorem d_Law_law_401 : decode code 401 = .ok (.iload 5, 2) := by decide +kernel
theorem d_Law_law_403 : decode code 403 = .ok (.if_icmp .eq 5, 3) := by decide +kernel
theorem d_Law_law_406 : decode code 406 = .ok (.iconst 0, 1) := by decide +kernel
theorem d_Law_law_407 : decode code 407 = .ok (.ireturn, 1) := by decide +kernel
theorem d_Law_law_408 : decode code 408 = .ok (.iload 5, 2) := by decide +kernel
theorem d_Law_law_410 : decode code 410 = .ok (.ifCond .ne 15, 3) := by decide +kernel
theorem d_Law_law_413 : decode code 413 = .ok (.aload_n 3, 1) := by decide +kernel
theorem d_Law_law_414 : decode code 414 = .ok (.iconst 0, 1) := by decide +kernel
theorem d_Law_law_415 : decode code 415 = .ok (.laload, 1) := by decide +kernel
theorem d_Law_law_416 : decode code 416 = .ok (.iload 6, 2) := by decide +kernel
theorem d_Law_law_418 : decode code 418 = .ok (.i2l, 1) := by decide +kernel
theorem d_Law_law_419 : decode code 419 = .ok (.lcmp, 1) := by decide +kernel
theorem d_Law_law_420 : decode code 420 = .ok (.ifCond .eq 5, 3) := by decide +kernel
theorem d_Law_law_423 : decode code 423 = .ok (.iconst 0, 1) := by decide +kernel
theorem d_Law_law_424 : decode code 424 = .ok (.ireturn, 1) := by decide +kernel
theorem d_Law_law_425 : decode code 425 = .ok (.goto 823, 3) := by decide +kernel
theorem d_Law_law_428 : decode code 428 = .ok (.aload_n 1, 1) := by decide +kernel
theorem d_Law_law_429 : decode code 429 = .ok (.aload_n 3, 1) := by decide +kernel
theorem d_Law_law_430 : decode code 430 = .ok (.invokestatic 110, 3) := by decide +kernel
theorem d_Law_law_433 : decode code 433 = .ok (.istore 5, 2) := by decide +kernel
theorem d_Law_law_435 : decode code 435 = .ok (.aload_n 2, 1) := by decide +kernel
theorem d_Law_law_436 : decode code 436 = .ok (.invokevirtual 113, 3) := by decide +kernel
theorem d_Law_law_439 : decode code 439 = .ok (.istore 6, 2) := by decide +kernel
theorem d_Law_law_441 : decode code 441 = .ok (.aload_n 2, 1) := by decide +kernel
theorem d_Law_law_442 : decode code 442 = .ok (.invokevirtual 100, 3) := by decide +kernel
theorem d_Law_law_445 : decode code 445 = .ok (.iload 5, 2) := by decide +kernel
theorem d_Law_law_447 : decode code 447 = .ok (.if_icmp .eq 5, 3) := by decide +kernel
theorem d_Law_law_450 : decode code 450 = .ok (.iconst 0, 1) := by decide +kernel
theorem d_Law_law_451 : decode code 451 = .ok (.ireturn, 1) := by decide +kernel
theorem d_Law_law_452 : decode code 452 = .ok (.iload 5, 2) := by decide +kernel
theorem d_Law_law_454 : decode code 454 = .ok (.ifCond .ne 15, 3) := by decide +kernel
theorem d_Law_law_457 : decode code 457 = .ok (.aload_n 3, 1) := by decide +kernel
theorem d_Law_law_458 : decode code 458 = .ok (.iconst 0, 1) := by decide +kernel
theorem d_Law_law_459 : decode code 459 = .ok (.laload, 1) := by decide +kernel
theorem d_Law_law_460 : decode code 460 = .ok (.iload 6, 2) := by decide +kernel
theorem d_Law_law_462 : decode code 462 = .ok (.i2l, 1) := by decide +kernel
theorem d_Law_law_463 : decode code 463 = .ok (.lcmp, 1) := by decide +kernel
theorem d_Law_law_464 : decode code 464 = .ok (.ifCond .eq 5, 3) := by decide +kernel
theorem d_Law_law_467 : decode code 467 = .ok (.iconst 0, 1) := by decide +kernel
theorem d_Law_law_468 : decode code 468 = .ok (.ireturn, 1) := by decide +kernel
theorem d_Law_law_469 : decode code 469 = .ok (.goto 779, 3) := by decide +kernel
theorem d_Law_law_472 : decode code 472 = .ok (.aload_n 1, 1) := by decide +kernel
theorem d_Law_law_473 : decode code 473 = .ok (.aload_n 0, 1) := by decide +kernel
theorem d_Law_law_474 : decode code 474 = .ok (.iload 4, 2) := by decide +kernel
theorem d_Law_law_476 : decode code 476 = .ok (.iconst 1, 1) := by decide +kernel
theorem d_Law_law_477 : decode code 477 = .ok (.iadd, 1) := by decide +kernel
theorem d_Law_law_478 : decode code 478 = .ok (.iaload, 1) := by decide +kernel
theorem d_Law_law_479 : decode code 479 = .ok (.aload_n 3, 1) := by decide +kernel
theorem d_Law_law_480 : decode code 480 = .ok (.invokestatic 114, 3) := by decide +kernel
theorem d_Law_law_483 : decode code 483 = .ok (.istore 5, 2) := by decide +kernel
theorem d_Law_law_485 : decode code 485 = .ok (.aload_n 2, 1) := by decide +kernel
theorem d_Law_law_486 : decode code 486 = .ok (.aload_n 0, 1) := by decide +kernel
theorem d_Law_law_487 : decode code 487 = .ok (.iload 4, 2) := by decide +kernel
theorem d_Law_law_489 : decode code 489 = .ok (.iconst 1, 1) := by decide +kernel
theorem d_Law_law_490 : decode code 490 = .ok (.iadd, 1) := by decide +kernel
theorem d_Law_law_491 : decode code 491 = .ok (.iaload, 1) := by decide +kernel
theorem d_Law_law_492 : decode code 492 = .ok (.invokevirtual 117, 3) := by decide +kernel
theorem d_Law_law_495 : decode code 495 = .ok (.istore 6, 2) := by decide +kernel
theorem d_Law_law_497 : decode code 497 = .ok (.aload_n 2, 1) := by decide +kernel
theorem d_Law_law_498 : decode code 498 = .ok (.invokevirtual 100, 3) := by decide +kernel
theorem d_Law_law_501 : decode code 501 = .ok (.iload 5, 2) := by decide +kernel
theorem d_Law_law_503 : decode code 503 = .ok (.if_icmp .eq 5, 3) := by decide +kernel
theorem d_Law_law_506 : decode code 506 = .ok (.iconst 0, 1) := by decide +kernel
theorem d_Law_law_507 : decode code 507 = .ok (.ireturn, 1) := by decide +kernel
theorem d_Law_law_508 : decode code 508 = .ok (.iload 5, 2) := by decide +kernel
theorem d_Law_law_510 : decode code 510 = .ok (.ifCond .ne 15, 3) := by decide +kernel
theorem d_Law_law_513 : decode code 513 = .ok (.aload_n 3, 1) := by decide +kernel
theorem d_Law_law_514 : decode code 514 = .ok (.iconst 0, 1) := by decide +kernel
theorem d_Law_law_515 : decode code 515 = .ok (.laload, 1) := by decide +kernel
theorem d_Law_law_516 : decode code 516 = .ok (.iload 6, 2) := by decide +kernel
theorem d_Law_law_518 : decode code 518 = .ok (.i2l, 1) := by decide +kernel
theorem d_Law_law_519 : decode code 519 = .ok (.lcmp, 1) := by decide +kernel
theorem d_Law_law_520 : decode code 520 = .ok (.ifCond .eq 5, 3) := by decide +kernel
theorem d_Law_law_523 : decode code 523 = .ok (.iconst 0, 1) := by decide +kernel
theorem d_Law_law_524 : decode code 524 = .ok (.ireturn, 1) := by decide +kernel
theorem d_Law_law_525 : decode code 525 = .ok (.goto 723, 3) := by decide +kernel
theorem d_Law_law_528 : decode code 528 = .ok (.aload_n 1, 1) := by decide +kernel
theorem d_Law_law_529 : decode code 529 = .ok (.aload_n 0, 1) := by decide +kernel
theorem d_Law_law_530 : decode code 530 = .ok (.iload 4, 2) := by decide +kernel
theorem d_Law_law_532 : decode code 532 = .ok (.iconst 1, 1) := by decide +kernel
theorem d_Law_law_533 : decode code 533 = .ok (.iadd, 1) := by decide +kernel
theorem d_Law_law_534 : decode code 534 = .ok (.iaload, 1) := by decide +kernel
theorem d_Law_law_535 : decode code 535 = .ok (.aload_n 3, 1) := by decide +kernel
theorem d_Law_law_536 : decode code 536 = .ok (.invokestatic 118, 3) := by decide +kernel
theorem d_Law_law_539 : decode code 539 = .ok (.istore 5, 2) := by decide +kernel
theorem d_Law_law_541 : decode code 541 = .ok (.aload_n 2, 1) := by decide +kernel
theorem d_Law_law_542 : decode code 542 = .ok (.aload_n 0, 1) := by decide +kernel
theorem d_Law_law_543 : decode code 543 = .ok (.iload 4, 2) := by decide +kernel
theorem d_Law_law_545 : decode code 545 = .ok (.iconst 1, 1) := by decide +kernel
theorem d_Law_law_546 : decode code 546 = .ok (.iadd, 1) := by decide +kernel
theorem d_Law_law_547 : decode code 547 = .ok (.iaload, 1) := by decide +kernel
theorem d_Law_law_548 : decode code 548 = .ok (.invokevirtual 120, 3) := by decide +kernel
theorem d_Law_law_551 : decode code 551 = .ok (.istore 6, 2) := by decide +kernel
theorem d_Law_law_553 : decode code 553 = .ok (.aload_n 2, 1) := by decide +kernel
theorem d_Law_law_554 : decode code 554 = .ok (.invokevirtual 100, 3) := by decide +kernel
theorem d_Law_law_557 : decode code 557 = .ok (.iload 5, 2) := by decide +kernel
theorem d_Law_law_559 : decode code 559 = .ok (.if_icmp .eq 5, 3) := by decide +kernel
theorem d_Law_law_562 : decode code 562 = .ok (.iconst 0, 1) := by decide +kernel
theorem d_Law_law_563 : decode code 563 = .ok (.ireturn, 1) := by decide +kernel
theorem d_Law_law_564 : decode code 564 = .ok (.iload 5, 2) := by decide +kernel
theorem d_Law_law_566 : decode code 566 = .ok (.ifCond .ne 22, 3) := by decide +kernel
theorem d_Law_law_569 : decode code 569 = .ok (.aload_n 3, 1) := by decide +kernel
theorem d_Law_law_570 : decode code 570 = .ok (.iconst 0, 1) := by decide +kernel
theorem d_Law_law_571 : decode code 571 = .ok (.laload, 1) := by decide +kernel
theorem d_Law_law_572 : decode code 572 = .ok (.iload 6, 2) := by decide +kernel
theorem d_Law_law_574 : decode code 574 = .ok (.ifCond .eq 7, 3) := by decide +kernel
theorem d_Law_law_577 : decode code 577 = .ok (.lconst 1, 1) := by decide +kernel
theorem d_Law_law_578 : decode code 578 = .ok (.goto 4, 3) := by decide +kernel
theorem d_Law_law_581 : decode code 581 = .ok (.lconst 0, 1) := by decide +kernel
theorem d_Law_law_582 : decode code 582 = .ok (.lcmp, 1) := by decide +kernel
theorem d_Law_law_583 : decode code 583 = .ok (.ifCond .eq 5, 3) := by decide +kernel
theorem d_Law_law_586 : decode code 586 = .ok (.iconst 0, 1) := by decide +kernel
theorem d_Law_law_587 : decode code 587 = .ok (.ireturn, 1) := by decide +kernel
theorem d_Law_law_588 : decode code 588 = .ok (.goto 660, 3) := by decide +kernel
theorem d_Law_law_591 : decode code 591 = .ok (.aload_n 1, 1) := by decide +kernel
theorem d_Law_law_592 : decode code 592 = .ok (.aload_n 0, 1) := by decide +kernel
theorem d_Law_law_593 : decode code 593 = .ok (.iload 4, 2) := by decide +kernel
theorem d_Law_law_595 : decode code 595 = .ok (.iconst 1, 1) := by decide +kernel
theorem d_Law_law_596 : decode code 596 = .ok (.iadd, 1) := by decide +kernel
theorem d_Law_law_597 : decode code 597 = .ok (.iaload, 1) := by decide +kernel
theorem d_Law_law_598 : decode code 598 = .ok (.aload_n 3, 1) := by decide +kernel
theorem d_Law_law_599 : decode code 599 = .ok (.invokestatic 121, 3) := by decide +kernel
theorem d_Law_law_602 : decode code 602 = .ok (.istore 5, 2) := by decide +kernel
theorem d_Law_law_604 : decode code 604 = .ok (.aload_n 2, 1) := by decide +kernel
theorem d_Law_law_605 : decode code 605 = .ok (.aload_n 0, 1) := by decide +kernel
theorem d_Law_law_606 : decode code 606 = .ok (.iload 4, 2) := by decide +kernel
theorem d_Law_law_608 : decode code 608 = .ok (.iconst 1, 1) := by decide +kernel
theorem d_Law_law_609 : decode code 609 = .ok (.iadd, 1) := by decide +kernel
theorem d_Law_law_610 : decode code 610 = .ok (.iaload, 1) := by decide +kernel
theorem d_Law_law_611 : decode code 611 = .ok (.invokevirtual 123, 3) := by decide +kernel
theorem d_Law_law_614 : decode code 614 = .ok (.istore 6, 2) := by decide +kernel
theorem d_Law_law_616 : decode code 616 = .ok (.aload_n 2, 1) := by decide +kernel
theorem d_Law_law_617 : decode code 617 = .ok (.invokevirtual 100, 3) := by decide +kernel
theorem d_Law_law_620 : decode code 620 = .ok (.iload 5, 2) := by decide +kernel
theorem d_Law_law_622 : decode code 622 = .ok (.if_icmp .eq 5, 3) := by decide +kernel
theorem d_Law_law_625 : decode code 625 = .ok (.iconst 0, 1) := by decide +kernel
theorem d_Law_law_626 : decode code 626 = .ok (.ireturn, 1) := by decide +kernel
theorem d_Law_law_627 : decode code 627 = .ok (.iload 5, 2) := by decide +kernel
theorem d_Law_law_629 : decode code 629 = .ok (.ifCond .ne 22, 3) := by decide +kernel
theorem d_Law_law_632 : decode code 632 = .ok (.aload_n 3, 1) := by decide +kernel
theorem d_Law_law_633 : decode code 633 = .ok (.iconst 0, 1) := by decide +kernel
theorem d_Law_law_634 : decode code 634 = .ok (.laload, 1) := by decide +kernel
theorem d_Law_law_635 : decode code 635 = .ok (.iload 6, 2) := by decide +kernel
theorem d_Law_law_637 : decode code 637 = .ok (.ifCond .eq 7, 3) := by decide +kernel
theorem d_Law_law_640 : decode code 640 = .ok (.lconst 1, 1) := by decide +kernel
theorem d_Law_law_641 : decode code 641 = .ok (.goto 4, 3) := by decide +kernel
theorem d_Law_law_644 : decode code 644 = .ok (.lconst 0, 1) := by decide +kernel
theorem d_Law_law_645 : decode code 645 = .ok (.lcmp, 1) := by decide +kernel
theorem d_Law_law_646 : decode code 646 = .ok (.ifCond .eq 5, 3) := by decide +kernel
theorem d_Law_law_649 : decode code 649 = .ok (.iconst 0, 1) := by decide +kernel
theorem d_Law_law_650 : decode code 650 = .ok (.ireturn, 1) := by decide +kernel
theorem d_Law_law_651 : decode code 651 = .ok (.goto 597, 3) := by decide +kernel
theorem d_Law_law_654 : decode code 654 = .ok (.aload_n 1, 1) := by decide +kernel
theorem d_Law_law_655 : decode code 655 = .ok (.aload_n 0, 1) := by decide +kernel
theorem d_Law_law_656 : decode code 656 = .ok (.iload 4, 2) := by decide +kernel
theorem d_Law_law_658 : decode code 658 = .ok (.iconst 1, 1) := by decide +kernel
theorem d_Law_law_659 : decode code 659 = .ok (.iadd, 1) := by decide +kernel
theorem d_Law_law_660 : decode code 660 = .ok (.iaload, 1) := by decide +kernel
theorem d_Law_law_661 : decode code 661 = .ok (.aload_n 0, 1) := by decide +kernel
theorem d_Law_law_662 : decode code 662 = .ok (.iload 4, 2) := by decide +kernel
theorem d_Law_law_664 : decode code 664 = .ok (.iconst 2, 1) := by decide +kernel
theorem d_Law_law_665 : decode code 665 = .ok (.iadd, 1) := by decide +kernel
theorem d_Law_law_666 : decode code 666 = .ok (.iaload, 1) := by decide +kernel
theorem d_Law_law_667 : decode code 667 = .ok (.ifCond .eq 7, 3) := by decide +kernel
theorem d_Law_law_670 : decode code 670 = .ok (.iconst 1, 1) := by decide +kernel
theorem d_Law_law_671 : decode code 671 = .ok (.goto 4, 3) := by decide +kernel
theorem d_Law_law_674 : decode code 674 = .ok (.iconst 0, 1) := by decide +kernel
theorem d_Law_law_675 : decode code 675 = .ok (.aload_n 3, 1) := by decide +kernel
theorem d_Law_law_676 : decode code 676 = .ok (.invokestatic 124, 3) := by decide +kernel
theorem d_Law_law_679 : decode code 679 = .ok (.istore 5, 2) := by decide +kernel
theorem d_Law_law_681 : decode code 681 = .ok (.aload_n 2, 1) := by decide +kernel
theorem d_Law_law_682 : decode code 682 = .ok (.aload_n 0, 1) := by decide +kernel
theorem d_Law_law_683 : decode code 683 = .ok (.iload 4, 2) := by decide +kernel
theorem d_Law_law_685 : decode code 685 = .ok (.iconst 1, 1) := by decide +kernel
theorem d_Law_law_686 : decode code 686 = .ok (.iadd, 1) := by decide +kernel
theorem d_Law_law_687 : decode code 687 = .ok (.iaload, 1) := by decide +kernel
theorem d_Law_law_688 : decode code 688 = .ok (.aload_n 0, 1) := by decide +kernel
theorem d_Law_law_689 : decode code 689 = .ok (.iload 4, 2) := by decide +kernel
theorem d_Law_law_691 : decode code 691 = .ok (.iconst 2, 1) := by decide +kernel
theorem d_Law_law_692 : decode code 692 = .ok (.iadd, 1) := by decide +kernel
theorem d_Law_law_693 : decode code 693 = .ok (.iaload, 1) := by decide +kernel
theorem d_Law_law_694 : decode code 694 = .ok (.ifCond .eq 7, 3) := by decide +kernel
theorem d_Law_law_697 : decode code 697 = .ok (.iconst 1, 1) := by decide +kernel
theorem d_Law_law_698 : decode code 698 = .ok (.goto 4, 3) := by decide +kernel
theorem d_Law_law_701 : decode code 701 = .ok (.iconst 0, 1) := by decide +kernel
theorem d_Law_law_702 : decode code 702 = .ok (.invokevirtual 127, 3) := by decide +kernel
theorem d_Law_law_705 : decode code 705 = .ok (.istore 6, 2) := by decide +kernel
theorem d_Law_law_707 : decode code 707 = .ok (.aload_n 2, 1) := by decide +kernel
theorem d_Law_law_708 : decode code 708 = .ok (.invokevirtual 100, 3) := by decide +kernel
theorem d_Law_law_711 : decode code 711 = .ok (.iload 5, 2) := by decide +kernel
theorem d_Law_law_713 : decode code 713 = .ok (.if_icmp .eq 5, 3) := by decide +kernel
theorem d_Law_law_716 : decode code 716 = .ok (.iconst 0, 1) := by decide +kernel
theorem d_Law_law_717 : decode code 717 = .ok (.ireturn, 1) := by decide +kernel
theorem d_Law_law_718 : decode code 718 = .ok (.iload 5, 2) := by decide +kernel
theorem d_Law_law_720 : decode code 720 = .ok (.ifCond .ne 22, 3) := by decide +kernel
theorem d_Law_law_723 : decode code 723 = .ok (.aload_n 3, 1) := by decide +kernel
theorem d_Law_law_724 : decode code 724 = .ok (.iconst 0, 1) := by decide +kernel
theorem d_Law_law_725 : decode code 725 = .ok (.laload, 1) := by decide +kernel
theorem d_Law_law_726 : decode code 726 = .ok (.iload 6, 2) := by decide +kernel
theorem d_Law_law_728 : decode code 728 = .ok (.ifCond .eq 7, 3) := by decide +kernel
theorem d_Law_law_731 : decode code 731 = .ok (.lconst 1, 1) := by decide +kernel
theorem d_Law_law_732 : decode code 732 = .ok (.goto 4, 3) := by decide +kernel
theorem d_Law_law_735 : decode code 735 = .ok (.lconst 0, 1) := by decide +kernel
theorem d_Law_law_736 : decode code 736 = .ok (.lcmp, 1) := by decide +kernel
theorem d_Law_law_737 : decode code 737 = .ok (.ifCond .eq 5, 3) := by decide +kernel
theorem d_Law_law_740 : decode code 740 = .ok (.iconst 0, 1) := by decide +kernel
theorem d_Law_law_741 : decode code 741 = .ok (.ireturn, 1) := by decide +kernel
theorem d_Law_law_742 : decode code 742 = .ok (.goto 506, 3) := by decide +kernel
theorem d_Law_law_745 : decode code 745 = .ok (.aload_n 1, 1) := by decide +kernel
theorem d_Law_law_746 : decode code 746 = .ok (.aload_n 3, 1) := by decide +kernel
theorem d_Law_law_747 : decode code 747 = .ok (.invokestatic 128, 3) := by decide +kernel
theorem d_Law_law_750 : decode code 750 = .ok (.istore 5, 2) := by decide +kernel
theorem d_Law_law_752 : decode code 752 = .ok (.aload_n 2, 1) := by decide +kernel
theorem d_Law_law_753 : decode code 753 = .ok (.invokevirtual 130, 3) := by decide +kernel
theorem d_Law_law_756 : decode code 756 = .ok (.istore 6, 2) := by decide +kernel
theorem d_Law_law_758 : decode code 758 = .ok (.aload_n 2, 1) := by decide +kernel
theorem d_Law_law_759 : decode code 759 = .ok (.invokevirtual 100, 3) := by decide +kernel
theorem d_Law_law_762 : decode code 762 = .ok (.iload 5, 2) := by decide +kernel
theorem d_Law_law_764 : decode code 764 = .ok (.if_icmp .eq 5, 3) := by decide +kernel
theorem d_Law_law_767 : decode code 767 = .ok (.iconst 0, 1) := by decide +kernel
theorem d_Law_law_768 : decode code 768 = .ok (.ireturn, 1) := by decide +kernel
theorem d_Law_law_769 : decode code 769 = .ok (.iload 5, 2) := by decide +kernel
theorem d_Law_law_771 : decode code 771 = .ok (.ifCond .ne 15, 3) := by decide +kernel
theorem d_Law_law_774 : decode code 774 = .ok (.aload_n 3, 1) := by decide +kernel
theorem d_Law_law_775 : decode code 775 = .ok (.iconst 0, 1) := by decide +kernel
theorem d_Law_law_776 : decode code 776 = .ok (.laload, 1) := by decide +kernel
theorem d_Law_law_777 : decode code 777 = .ok (.iload 6, 2) := by decide +kernel
theorem d_Law_law_779 : decode code 779 = .ok (.i2l, 1) := by decide +kernel
theorem d_Law_law_780 : decode code 780 = .ok (.lcmp, 1) := by decide +kernel
theorem d_Law_law_781 : decode code 781 = .ok (.ifCond .eq 5, 3) := by decide +kernel
theorem d_Law_law_784 : decode code 784 = .ok (.iconst 0, 1) := by decide +kernel
theorem d_Law_law_785 : decode code 785 = .ok (.ireturn, 1) := by decide +kernel
theorem d_Law_law_786 : decode code 786 = .ok (.goto 462, 3) := by decide +kernel
theorem d_Law_law_789 : decode code 789 = .ok (.aload_n 1, 1) := by decide +kernel
theorem d_Law_law_790 : decode code 790 = .ok (.aload_n 0, 1) := by decide +kernel
theorem d_Law_law_791 : decode code 791 = .ok (.iload 4, 2) := by decide +kernel
theorem d_Law_law_793 : decode code 793 = .ok (.iconst 1, 1) := by decide +kernel
theorem d_Law_law_794 : decode code 794 = .ok (.iadd, 1) := by decide +kernel
theorem d_Law_law_795 : decode code 795 = .ok (.iaload, 1) := by decide +kernel
theorem d_Law_law_796 : decode code 796 = .ok (.aload_n 0, 1) := by decide +kernel
theorem d_Law_law_797 : decode code 797 = .ok (.iload 4, 2) := by decide +kernel
theorem d_Law_law_799 : decode code 799 = .ok (.iconst 2, 1) := by decide +kernel
theorem d_Law_law_800 : decode code 800 = .ok (.iadd, 1) := by decide +kernel
theorem d_Law_law_801 : decode code 801 = .ok (.iaload, 1) := by decide +kernel
theorem d_Law_law_802 : decode code 802 = .ok (.aload_n 3, 1) := by decide +kernel
theorem d_Law_law_803 : decode code 803 = .ok (.invokestatic 131, 3) := by decide +kernel
theorem d_Law_law_806 : decode code 806 = .ok (.istore 5, 2) := by decide +kernel
theorem d_Law_law_808 : decode code 808 = .ok (.aload_n 2, 1) := by decide +kernel
theorem d_Law_law_809 : decode code 809 = .ok (.aload_n 0, 1) := by decide +kernel
theorem d_Law_law_810 : decode code 810 = .ok (.iload 4, 2) := by decide +kernel
theorem d_Law_law_812 : decode code 812 = .ok (.iconst 1, 1) := by decide +kernel
theorem d_Law_law_813 : decode code 813 = .ok (.iadd, 1) := by decide +kernel
theorem d_Law_law_814 : decode code 814 = .ok (.iaload, 1) := by decide +kernel
theorem d_Law_law_815 : decode code 815 = .ok (.aload_n 0, 1) := by decide +kernel
theorem d_Law_law_816 : decode code 816 = .ok (.iload 4, 2) := by decide +kernel
theorem d_Law_law_818 : decode code 818 = .ok (.iconst 2, 1) := by decide +kernel
theorem d_Law_law_819 : decode code 819 = .ok (.iadd, 1) := by decide +kernel
theorem d_Law_law_820 : decode code 820 = .ok (.iaload, 1) := by decide +kernel
theorem d_Law_law_821 : decode code 821 = .ok (.invokevirtual 134, 3) := by decide +kernel
theorem d_Law_law_824 : decode code 824 = .ok (.lstore 6, 2) := by decide +kernel
theorem d_Law_law_826 : decode code 826 = .ok (.aload_n 2, 1) := by decide +kernel
theorem d_Law_law_827 : decode code 827 = .ok (.invokevirtual 100, 3) := by decide +kernel
theorem d_Law_law_830 : decode code 830 = .ok (.iload 5, 2) := by decide +kernel
theorem d_Law_law_832 : decode code 832 = .ok (.if_icmp .eq 5, 3) := by decide +kernel
theorem d_Law_law_835 : decode code 835 = .ok (.iconst 0, 1) := by decide +kernel
theorem d_Law_law_836 : decode code 836 = .ok (.ireturn, 1) := by decide +kernel
theorem d_Law_law_837 : decode code 837 = .ok (.iload 5, 2) := by decide +kernel
theorem d_Law_law_839 : decode code 839 = .ok (.ifCond .ne 14, 3) := by decide +kernel
theorem d_Law_law_842 : decode code 842 = .ok (.aload_n 3, 1) := by decide +kernel
theorem d_Law_law_843 : decode code 843 = .ok (.iconst 0, 1) := by decide +kernel
theorem d_Law_law_844 : decode code 844 = .ok (.laload, 1) := by decide +kernel
theorem d_Law_law_845 : decode code 845 = .ok (.lload 6, 2) := by decide +kernel
theorem d_Law_law_847 : decode code 847 = .ok (.lcmp, 1) := by decide +kernel
theorem d_Law_law_848 : decode code 848 = .ok (.ifCond .eq 5, 3) := by decide +kernel
theorem d_Law_law_851 : decode code 851 = .ok (.iconst 0, 1) := by decide +kernel
theorem d_Law_law_852 : decode code 852 = .ok (.ireturn, 1) := by decide +kernel
theorem d_Law_law_853 : decode code 853 = .ok (.goto 395, 3) := by decide +kernel
theorem d_Law_law_856 : decode code 856 = .ok (.aload_n 1, 1) := by decide +kernel
theorem d_Law_law_857 : decode code 857 = .ok (.invokestatic 135, 3) := by decide +kernel
theorem d_Law_law_860 : decode code 860 = .ok (.istore 5, 2) := by decide +kernel
theorem d_Law_law_862 : decode code 862 = .ok (.aload_n 2, 1) := by decide +kernel
theorem d_Law_law_863 : decode code 863 = .ok (.invokevirtual 138, 3) := by decide +kernel
theorem d_Law_law_866 : decode code 866 = .ok (.aload_n 2, 1) := by decide +kernel
theorem d_Law_law_867 : decode code 867 = .ok (.invokevirtual 100, 3) := by decide +kernel
theorem d_Law_law_870 : decode code 870 = .ok (.iload 5, 2) := by decide +kernel
theorem d_Law_law_872 : decode code 872 = .ok (.if_icmp .eq 5, 3) := by decide +kernel
theorem d_Law_law_875 : decode code 875 = .ok (.iconst 0, 1) := by decide +kernel
theorem d_Law_law_876 : decode code 876 = .ok (.ireturn, 1) := by decide +kernel
theorem d_Law_law_877 : decode code 877 = .ok (.goto 371, 3) := by decide +kernel
theorem d_Law_law_880 : decode code 880 = .ok (.aload_n 1, 1) := by decide +kernel
theorem d_Law_law_881 : decode code 881 = .ok (.invokestatic 139, 3) := by decide +kernel
theorem d_Law_law_884 : decode code 884 = .ok (.istore 5, 2) := by decide +kernel
theorem d_Law_law_886 : decode code 886 = .ok (.aload_n 2, 1) := by decide +kernel
theorem d_Law_law_887 : decode code 887 = .ok (.invokevirtual 141, 3) := by decide +kernel
theorem d_Law_law_890 : decode code 890 = .ok (.aload_n 2, 1) := by decide +kernel
theorem d_Law_law_891 : decode code 891 = .ok (.invokevirtual 100, 3) := by decide +kernel
theorem d_Law_law_894 : decode code 894 = .ok (.iload 5, 2) := by decide +kernel
theorem d_Law_law_896 : decode code 896 = .ok (.if_icmp .eq 5, 3) := by decide +kernel
theorem d_Law_law_899 : decode code 899 = .ok (.iconst 0, 1) := by decide +kernel
theorem d_Law_law_900 : decode code 900 = .ok (.ireturn, 1) := by decide +kernel
theorem d_Law_law_901 : decode code 901 = .ok (.goto 347, 3) := by decide +kernel
theorem d_Law_law_904 : decode code 904 = .ok (.aload_n 1, 1) := by decide +kernel
theorem d_Law_law_905 : decode code 905 = .ok (.invokestatic 142, 3) := by decide +kernel
theorem d_Law_law_908 : decode code 908 = .ok (.istore 5, 2) := by decide +kernel
theorem d_Law_law_910 : decode code 910 = .ok (.aload_n 2, 1) := by decide +kernel
theorem d_Law_law_911 : decode code 911 = .ok (.invokevirtual 144, 3) := by decide +kernel
theorem d_Law_law_914 : decode code 914 = .ok (.aload_n 2, 1) := by decide +kernel
theorem d_Law_law_915 : decode code 915 = .ok (.invokevirtual 100, 3) := by decide +kernel
theorem d_Law_law_918 : decode code 918 = .ok (.iload 5, 2) := by decide +kernel
theorem d_Law_law_920 : decode code 920 = .ok (.if_icmp .eq 5, 3) := by decide +kernel
theorem d_Law_law_923 : decode code 923 = .ok (.iconst 0, 1) := by decide +kernel
theorem d_Law_law_924 : decode code 924 = .ok (.ireturn, 1) := by decide +kernel
theorem d_Law_law_925 : decode code 925 = .ok (.goto 323, 3) := by decide +kernel
theorem d_Law_law_928 : decode code 928 = .ok (.aload_n 1, 1) := by decide +kernel
theorem d_Law_law_929 : decode code 929 = .ok (.aload_n 3, 1) := by decide +kernel
theorem d_Law_law_930 : decode code 930 = .ok (.invokestatic 145, 3) := by decide +kernel
theorem d_Law_law_933 : decode code 933 = .ok (.istore 5, 2) := by decide +kernel
theorem d_Law_law_935 : decode code 935 = .ok (.aload_n 2, 1) := by decide +kernel
theorem d_Law_law_936 : decode code 936 = .ok (.invokevirtual 147, 3) := by decide +kernel
theorem d_Law_law_939 : decode code 939 = .ok (.istore 6, 2) := by decide +kernel
theorem d_Law_law_941 : decode code 941 = .ok (.aload_n 2, 1) := by decide +kernel
theorem d_Law_law_942 : decode code 942 = .ok (.invokevirtual 100, 3) := by decide +kernel
theorem d_Law_law_945 : decode code 945 = .ok (.iload 5, 2) := by decide +kernel
theorem d_Law_law_947 : decode code 947 = .ok (.if_icmp .eq 5, 3) := by decide +kernel
theorem d_Law_law_950 : decode code 950 = .ok (.iconst 0, 1) := by decide +kernel
theorem d_Law_law_951 : decode code 951 = .ok (.ireturn, 1) := by decide +kernel
theorem d_Law_law_952 : decode code 952 = .ok (.iload 5, 2) := by decide +kernel
theorem d_Law_law_954 : decode code 954 = .ok (.ifCond .ne 15, 3) := by decide +kernel
theorem d_Law_law_957 : decode code 957 = .ok (.aload_n 3, 1) := by decide +kernel
theorem d_Law_law_958 : decode code 958 = .ok (.iconst 0, 1) := by decide +kernel
theorem d_Law_law_959 : decode code 959 = .ok (.laload, 1) := by decide +kernel
theorem d_Law_law_960 : decode code 960 = .ok (.iload 6, 2) := by decide +kernel
theorem d_Law_law_962 : decode code 962 = .ok (.i2l, 1) := by decide +kernel
theorem d_Law_law_963 : decode code 963 = .ok (.lcmp, 1) := by decide +kernel
theorem d_Law_law_964 : decode code 964 = .ok (.ifCond .eq 5, 3) := by decide +kernel
theorem d_Law_law_967 : decode code 967 = .ok (.iconst 0, 1) := by decide +kernel
theorem d_Law_law_968 : decode code 968 = .ok (.ireturn, 1) := by decide +kernel
theorem d_Law_law_969 : decode code 969 = .ok (.goto 279, 3) := by decide +kernel
theorem d_Law_law_972 : decode code 972 = .ok (.aload_n 1, 1) := by decide +kernel
theorem d_Law_law_973 : decode code 973 = .ok (.aload_n 0, 1) := by decide +kernel
theorem d_Law_law_974 : decode code 974 = .ok (.iload 4, 2) := by decide +kernel
theorem d_Law_law_976 : decode code 976 = .ok (.iconst 1, 1) := by decide +kernel
theorem d_Law_law_977 : decode code 977 = .ok (.iadd, 1) := by decide +kernel
theorem d_Law_law_978 : decode code 978 = .ok (.iaload, 1) := by decide +kernel
theorem d_Law_law_979 : decode code 979 = .ok (.invokestatic 148, 3) := by decide +kernel
theorem d_Law_law_982 : decode code 982 = .ok (.istore 5, 2) := by decide +kernel
theorem d_Law_law_984 : decode code 984 = .ok (.aload_n 2, 1) := by decide +kernel
theorem d_Law_law_985 : decode code 985 = .ok (.aload_n 0, 1) := by decide +kernel
theorem d_Law_law_986 : decode code 986 = .ok (.iload 4, 2) := by decide +kernel
theorem d_Law_law_988 : decode code 988 = .ok (.iconst 1, 1) := by decide +kernel
theorem d_Law_law_989 : decode code 989 = .ok (.iadd, 1) := by decide +kernel
theorem d_Law_law_990 : decode code 990 = .ok (.iaload, 1) := by decide +kernel
theorem d_Law_law_991 : decode code 991 = .ok (.invokevirtual 151, 3) := by decide +kernel
theorem d_Law_law_994 : decode code 994 = .ok (.aload_n 2, 1) := by decide +kernel
theorem d_Law_law_995 : decode code 995 = .ok (.invokevirtual 100, 3) := by decide +kernel
theorem d_Law_law_998 : decode code 998 = .ok (.iload 5, 2) := by decide +kernel
theorem d_Law_law_1000 : decode code 1000 = .ok (.if_icmp .eq 5, 3) := by decide +kernel
theorem d_Law_law_1003 : decode code 1003 = .ok (.iconst 0, 1) := by decide +kernel
theorem d_Law_law_1004 : decode code 1004 = .ok (.ireturn, 1) := by decide +kernel
theorem d_Law_law_1005 : decode code 1005 = .ok (.goto 243, 3) := by decide +kernel
theorem d_Law_law_1008 : decode code 1008 = .ok (.aload_n 1, 1) := by decide +kernel
theorem d_Law_law_1009 : decode code 1009 = .ok (.aload_n 0, 1) := by decide +kernel
theorem d_Law_law_1010 : decode code 1010 = .ok (.iload 4, 2) := by decide +kernel
theorem d_Law_law_1012 : decode code 1012 = .ok (.iconst 1, 1) := by decide +kernel
theorem d_Law_law_1013 : decode code 1013 = .ok (.iadd, 1) := by decide +kernel
theorem d_Law_law_1014 : decode code 1014 = .ok (.iaload, 1) := by decide +kernel
theorem d_Law_law_1015 : decode code 1015 = .ok (.invokestatic 152, 3) := by decide +kernel
theorem d_Law_law_1018 : decode code 1018 = .ok (.istore 5, 2) := by decide +kernel
theorem d_Law_law_1020 : decode code 1020 = .ok (.aload_n 2, 1) := by decide +kernel
theorem d_Law_law_1021 : decode code 1021 = .ok (.aload_n 0, 1) := by decide +kernel
theorem d_Law_law_1022 : decode code 1022 = .ok (.iload 4, 2) := by decide +kernel
theorem d_Law_law_1024 : decode code 1024 = .ok (.iconst 1, 1) := by decide +kernel
theorem d_Law_law_1025 : decode code 1025 = .ok (.iadd, 1) := by decide +kernel
theorem d_Law_law_1026 : decode code 1026 = .ok (.iaload, 1) := by decide +kernel
theorem d_Law_law_1027 : decode code 1027 = .ok (.invokevirtual 154, 3) := by decide +kernel
theorem d_Law_law_1030 : decode code 1030 = .ok (.aload_n 2, 1) := by decide +kernel
theorem d_Law_law_1031 : decode code 1031 = .ok (.invokevirtual 100, 3) := by decide +kernel
theorem d_Law_law_1034 : decode code 1034 = .ok (.iload 5, 2) := by decide +kernel
theorem d_Law_law_1036 : decode code 1036 = .ok (.if_icmp .eq 5, 3) := by decide +kernel
theorem d_Law_law_1039 : decode code 1039 = .ok (.iconst 0, 1) := by decide +kernel
theorem d_Law_law_1040 : decode code 1040 = .ok (.ireturn, 1) := by decide +kernel
theorem d_Law_law_1041 : decode code 1041 = .ok (.goto 207, 3) := by decide +kernel
theorem d_Law_law_1044 : decode code 1044 = .ok (.aload_n 1, 1) := by decide +kernel
theorem d_Law_law_1045 : decode code 1045 = .ok (.aload_n 0, 1) := by decide +kernel
theorem d_Law_law_1046 : decode code 1046 = .ok (.iload 4, 2) := by decide +kernel
theorem d_Law_law_1048 : decode code 1048 = .ok (.iconst 1, 1) := by decide +kernel
theorem d_Law_law_1049 : decode code 1049 = .ok (.iadd, 1) := by decide +kernel
theorem d_Law_law_1050 : decode code 1050 = .ok (.iaload, 1) := by decide +kernel
theorem d_Law_law_1051 : decode code 1051 = .ok (.aload_n 0, 1) := by decide +kernel
theorem d_Law_law_1052 : decode code 1052 = .ok (.iload 4, 2) := by decide +kernel
theorem d_Law_law_1054 : decode code 1054 = .ok (.iconst 2, 1) := by decide +kernel
theorem d_Law_law_1055 : decode code 1055 = .ok (.iadd, 1) := by decide +kernel
theorem d_Law_law_1056 : decode code 1056 = .ok (.iaload, 1) := by decide +kernel
theorem d_Law_law_1057 : decode code 1057 = .ok (.aload_n 0, 1) := by decide +kernel
theorem d_Law_law_1058 : decode code 1058 = .ok (.iload 4, 2) := by decide +kernel
theorem d_Law_law_1060 : decode code 1060 = .ok (.iconst 3, 1) := by decide +kernel
theorem d_Law_law_1061 : decode code 1061 = .ok (.iadd, 1) := by decide +kernel
theorem d_Law_law_1062 : decode code 1062 = .ok (.iaload, 1) := by decide +kernel
theorem d_Law_law_1063 : decode code 1063 = .ok (.invokestatic 155, 3) := by decide +kernel
theorem d_Law_law_1066 : decode code 1066 = .ok (.istore 5, 2) := by decide +kernel
theorem d_Law_law_1068 : decode code 1068 = .ok (.aload_n 2, 1) := by decide +kernel
theorem d_Law_law_1069 : decode code 1069 = .ok (.aload_n 0, 1) := by decide +kernel
theorem d_Law_law_1070 : decode code 1070 = .ok (.iload 4, 2) := by decide +kernel
theorem d_Law_law_1072 : decode code 1072 = .ok (.iconst 1, 1) := by decide +kernel
theorem d_Law_law_1073 : decode code 1073 = .ok (.iadd, 1) := by decide +kernel
theorem d_Law_law_1074 : decode code 1074 = .ok (.iaload, 1) := by decide +kernel
theorem d_Law_law_1075 : decode code 1075 = .ok (.aload_n 0, 1) := by decide +kernel
theorem d_Law_law_1076 : decode code 1076 = .ok (.iload 4, 2) := by decide +kernel
theorem d_Law_law_1078 : decode code 1078 = .ok (.iconst 2, 1) := by decide +kernel
theorem d_Law_law_1079 : decode code 1079 = .ok (.iadd, 1) := by decide +kernel
theorem d_Law_law_1080 : decode code 1080 = .ok (.iaload, 1) := by decide +kernel
theorem d_Law_law_1081 : decode code 1081 = .ok (.aload_n 0, 1) := by decide +kernel
theorem d_Law_law_1082 : decode code 1082 = .ok (.iload 4, 2) := by decide +kernel
theorem d_Law_law_1084 : decode code 1084 = .ok (.iconst 3, 1) := by decide +kernel
theorem d_Law_law_1085 : decode code 1085 = .ok (.iadd, 1) := by decide +kernel
theorem d_Law_law_1086 : decode code 1086 = .ok (.iaload, 1) := by decide +kernel
theorem d_Law_law_1087 : decode code 1087 = .ok (.invokevirtual 158, 3) := by decide +kernel
theorem d_Law_law_1090 : decode code 1090 = .ok (.aload_n 2, 1) := by decide +kernel
theorem d_Law_law_1091 : decode code 1091 = .ok (.invokevirtual 100, 3) := by decide +kernel
theorem d_Law_law_1094 : decode code 1094 = .ok (.iload 5, 2) := by decide +kernel
theorem d_Law_law_1096 : decode code 1096 = .ok (.if_icmp .eq 5, 3) := by decide +kernel
theorem d_Law_law_1099 : decode code 1099 = .ok (.iconst 0, 1) := by decide +kernel
theorem d_Law_law_1100 : decode code 1100 = .ok (.ireturn, 1) := by decide +kernel
theorem d_Law_law_1101 : decode code 1101 = .ok (.goto 147, 3) := by decide +kernel
theorem d_Law_law_1104 : decode code 1104 = .ok (.aload_n 1, 1) := by decide +kernel
theorem d_Law_law_1105 : decode code 1105 = .ok (.aload_n 3, 1) := by decide +kernel
theorem d_Law_law_1106 : decode code 1106 = .ok (.invokestatic 159, 3) := by decide +kernel
theorem d_Law_law_1109 : decode code 1109 = .ok (.istore 5, 2) := by decide +kernel
theorem d_Law_law_1111 : decode code 1111 = .ok (.aload_n 2, 1) := by decide +kernel
theorem d_Law_law_1112 : decode code 1112 = .ok (.invokevirtual 161, 3) := by decide +kernel
theorem d_Law_law_1115 : decode code 1115 = .ok (.istore 6, 2) := by decide +kernel
theorem d_Law_law_1117 : decode code 1117 = .ok (.aload_n 2, 1) := by decide +kernel
theorem d_Law_law_1118 : decode code 1118 = .ok (.invokevirtual 100, 3) := by decide +kernel
theorem d_Law_law_1121 : decode code 1121 = .ok (.iload 5, 2) := by decide +kernel
theorem d_Law_law_1123 : decode code 1123 = .ok (.if_icmp .eq 5, 3) := by decide +kernel
theorem d_Law_law_1126 : decode code 1126 = .ok (.iconst 0, 1) := by decide +kernel
theorem d_Law_law_1127 : decode code 1127 = .ok (.ireturn, 1) := by decide +kernel
theorem d_Law_law_1128 : decode code 1128 = .ok (.iload 5, 2) := by decide +kernel
theorem d_Law_law_1130 : decode code 1130 = .ok (.ifCond .ne 15, 3) := by decide +kernel
theorem d_Law_law_1133 : decode code 1133 = .ok (.aload_n 3, 1) := by decide +kernel
theorem d_Law_law_1134 : decode code 1134 = .ok (.iconst 0, 1) := by decide +kernel
theorem d_Law_law_1135 : decode code 1135 = .ok (.laload, 1) := by decide +kernel
theorem d_Law_law_1136 : decode code 1136 = .ok (.iload 6, 2) := by decide +kernel
theorem d_Law_law_1138 : decode code 1138 = .ok (.i2l, 1) := by decide +kernel
theorem d_Law_law_1139 : decode code 1139 = .ok (.lcmp, 1) := by decide +kernel
theorem d_Law_law_1140 : decode code 1140 = .ok (.ifCond .eq 5, 3) := by decide +kernel
theorem d_Law_law_1143 : decode code 1143 = .ok (.iconst 0, 1) := by decide +kernel
theorem d_Law_law_1144 : decode code 1144 = .ok (.ireturn, 1) := by decide +kernel
theorem d_Law_law_1145 : decode code 1145 = .ok (.goto 103, 3) := by decide +kernel
theorem d_Law_law_1148 : decode code 1148 = .ok (.aload_n 1, 1) := by decide +kernel
theorem d_Law_law_1149 : decode code 1149 = .ok (.aload_n 0, 1) := by decide +kernel
theorem d_Law_law_1150 : decode code 1150 = .ok (.iload 4, 2) := by decide +kernel
theorem d_Law_law_1152 : decode code 1152 = .ok (.iconst 1, 1) := by decide +kernel
theorem d_Law_law_1153 : decode code 1153 = .ok (.iadd, 1) := by decide +kernel
theorem d_Law_law_1154 : decode code 1154 = .ok (.iaload, 1) := by decide +kernel
theorem d_Law_law_1155 : decode code 1155 = .ok (.aload_n 3, 1) := by decide +kernel
theorem d_Law_law_1156 : decode code 1156 = .ok (.invokestatic 162, 3) := by decide +kernel
theorem d_Law_law_1159 : decode code 1159 = .ok (.istore 5, 2) := by decide +kernel
theorem d_Law_law_1161 : decode code 1161 = .ok (.aload_n 2, 1) := by decide +kernel
theorem d_Law_law_1162 : decode code 1162 = .ok (.aload_n 0, 1) := by decide +kernel
theorem d_Law_law_1163 : decode code 1163 = .ok (.iload 4, 2) := by decide +kernel
theorem d_Law_law_1165 : decode code 1165 = .ok (.iconst 1, 1) := by decide +kernel
theorem d_Law_law_1166 : decode code 1166 = .ok (.iadd, 1) := by decide +kernel
theorem d_Law_law_1167 : decode code 1167 = .ok (.iaload, 1) := by decide +kernel
theorem d_Law_law_1168 : decode code 1168 = .ok (.invokevirtual 164, 3) := by decide +kernel
theorem d_Law_law_1171 : decode code 1171 = .ok (.istore 6, 2) := by decide +kernel
theorem d_Law_law_1173 : decode code 1173 = .ok (.aload_n 2, 1) := by decide +kernel
theorem d_Law_law_1174 : decode code 1174 = .ok (.invokevirtual 100, 3) := by decide +kernel
theorem d_Law_law_1177 : decode code 1177 = .ok (.iload 5, 2) := by decide +kernel
theorem d_Law_law_1179 : decode code 1179 = .ok (.if_icmp .eq 5, 3) := by decide +kernel
theorem d_Law_law_1182 : decode code 1182 = .ok (.iconst 0, 1) := by decide +kernel
theorem d_Law_law_1183 : decode code 1183 = .ok (.ireturn, 1) := by decide +kernel
theorem d_Law_law_1184 : decode code 1184 = .ok (.iload 5, 2) := by decide +kernel
theorem d_Law_law_1186 : decode code 1186 = .ok (.ifCond .ne 15, 3) := by decide +kernel
theorem d_Law_law_1189 : decode code 1189 = .ok (.aload_n 3, 1) := by decide +kernel
theorem d_Law_law_1190 : decode code 1190 = .ok (.iconst 0, 1) := by decide +kernel
theorem d_Law_law_1191 : decode code 1191 = .ok (.laload, 1) := by decide +kernel
theorem d_Law_law_1192 : decode code 1192 = .ok (.iload 6, 2) := by decide +kernel
theorem d_Law_law_1194 : decode code 1194 = .ok (.i2l, 1) := by decide +kernel
theorem d_Law_law_1195 : decode code 1195 = .ok (.lcmp, 1) := by decide +kernel
theorem d_Law_law_1196 : decode code 1196 = .ok (.ifCond .eq 5, 3) := by decide +kernel
theorem d_Law_law_1199 : decode code 1199 = .ok (.iconst 0, 1) := by decide +kernel
theorem d_Law_law_1200 : decode code 1200 = .ok (.ireturn, 1) := by decide +kernel
theorem d_Law_law_1201 : decode code 1201 = .ok (.goto 47, 3) := by decide +kernel
theorem d_Law_law_1204 : decode code 1204 = .ok (.aload_n 1, 1) := by decide +kernel
theorem d_Law_law_1205 : decode code 1205 = .ok (.aload_n 3, 1) := by decide +kernel
theorem d_Law_law_1206 : decode code 1206 = .ok (.invokestatic 165, 3) := by decide +kernel
theorem d_Law_law_1209 : decode code 1209 = .ok (.istore 5, 2) := by decide +kernel
theorem d_Law_law_1211 : decode code 1211 = .ok (.aload_n 2, 1) := by decide +kernel
theorem d_Law_law_1212 : decode code 1212 = .ok (.invokevirtual 167, 3) := by decide +kernel
theorem d_Law_law_1215 : decode code 1215 = .ok (.istore 6, 2) := by decide +kernel
theorem d_Law_law_1217 : decode code 1217 = .ok (.aload_n 2, 1) := by decide +kernel
theorem d_Law_law_1218 : decode code 1218 = .ok (.invokevirtual 100, 3) := by decide +kernel
theorem d_Law_law_1221 : decode code 1221 = .ok (.iload 5, 2) := by decide +kernel
theorem d_Law_law_1223 : decode code 1223 = .ok (.if_icmp .eq 5, 3) := by decide +kernel
theorem d_Law_law_1226 : decode code 1226 = .ok (.iconst 0, 1) := by decide +kernel
theorem d_Law_law_1227 : decode code 1227 = .ok (.ireturn, 1) := by decide +kernel
theorem d_Law_law_1228 : decode code 1228 = .ok (.iload 5, 2) := by decide +kernel
theorem d_Law_law_1230 : decode code 1230 = .ok (.ifCond .ne 15, 3) := by decide +kernel
theorem d_Law_law_1233 : decode code 1233 = .ok (.aload_n 3, 1) := by decide +kernel
theorem d_Law_law_1234 : decode code 1234 = .ok (.iconst 0, 1) := by decide +kernel
theorem d_Law_law_1235 : decode code 1235 = .ok (.laload, 1) := by decide +kernel
theorem d_Law_law_1236 : decode code 1236 = .ok (.iload 6, 2) := by decide +kernel
theorem d_Law_law_1238 : decode code 1238 = .ok (.i2l, 1) := by decide +kernel
theorem d_Law_law_1239 : decode code 1239 = .ok (.lcmp, 1) := by decide +kernel
theorem d_Law_law_1240 : decode code 1240 = .ok (.ifCond .eq 5, 3) := by decide +kernel
theorem d_Law_law_1243 : decode code 1243 = .ok (.iconst 0, 1) := by decide +kernel
theorem d_Law_law_1244 : decode code 1244 = .ok (.ireturn, 1) := by decide +kernel
theorem d_Law_law_1245 : decode code 1245 = .ok (.goto 3, 3) := by decide +kernel
theorem d_Law_law_1248 : decode code 1248 = .ok (.iinc 4 4, 3) := by decide +kernel
theorem d_Law_law_1251 : decode code 1251 = .ok (.goto (-1228), 3) := by decide +kernel
theorem d_Law_law_1254 : decode code 1254 = .ok (.iconst 1, 1) := by decide +kernel
theorem d_Law_law_1255 : decode code 1255 = .ok (.ireturn, 1) := by decide +kernel
