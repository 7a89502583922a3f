theorem d_Lw_law_0 : decode code 0 = .ok (.new 8, 3) := by decide +kernel
theorem d_Lw_law_3 : decode code 3 = .ok (.dup, 1) := by decide +kernel
theorem d_Lw_law_4 : decode code 4 = .ok (.invokespecial 103, 3) := by decide +kernel
theorem d_Lw_law_7 : decode code 7 = .ok (.astore_n 1, 1) := by decide +kernel
theorem d_Lw_law_8 : decode code 8 = .ok (.new 104, 3) := by decide +kernel
theorem d_Lw_law_11 : decode code 11 = .ok (.dup, 1) := by decide +kernel
theorem d_Lw_law_12 : decode code 12 = .ok (.invokespecial 106, 3) := by decide +kernel
theorem d_Lw_law_15 : decode code 15 = .ok (.astore_n 2, 1) := by decide +kernel
theorem d_Lw_law_16 : decode code 16 = .ok (.iconst 1, 1) := by decide +kernel
theorem d_Lw_law_17 : decode code 17 = .ok (.newarray .long, 2) := by decide +kernel
theorem d_Lw_law_19 : decode code 19 = .ok (.astore_n 3, 1) := by decide +kernel
theorem d_Lw_law_20 : decode code 20 = .ok (.iconst 0, 1) := by decide +kernel
theorem d_Lw_law_21 : decode code 21 = .ok (.istore 4, 2) := by decide +kernel
theorem d_Lw_law_23 : decode code 23 = .ok (.iload 4, 2) := by decide +kernel
theorem d_Lw_law_25 : decode code 25 = .ok (.aload_n 0, 1) := by decide +kernel
theorem d_Lw_law_26 : decode code 26 = .ok (.arraylength, 1) := by decide +kernel
theorem d_Lw_law_27 : decode code 27 = .ok (.iconst 5, 1) := by decide +kernel
theorem d_Lw_law_28 : decode code 28 = .ok (.isub, 1) := by decide +kernel
theorem d_Lw_law_29 : decode code 29 = .ok (.if_icmp .gt 2159, 3) := by decide +kernel
theorem d_Lw_law_32 : decode code 32 = .ok (.aload_n 0, 1) := by decide +kernel
theorem d_Lw_law_33 : decode code 33 = .ok (.iload 4, 2) := by decide +kernel
theorem d_Lw_law_35 : decode code 35 = .ok (.iaload, 1) := by decide +kernel
theorem d_Lw_law_36 : decode code 36 = .ok (.bipush 31, 2) := by decide +kernel
theorem d_Lw_law_38 : decode code 38 = .ok (.iand, 1) := by decide +kernel
theorem d_Lw_law_39 : decode code 39 = .ok (.tableswitch 2143 0 27 #[125, 193, 249, 305, 373, 460, 552, 627, 695, 775, 843, 911, 998, 1073, 1172, 1240, 1308, 1400, 1480, 1572, 1659, 1746, 1826, 1894, 1962, 2018, 2074, 2087], 125) := by decide +kernel
theorem d_Lw_law_164 : decode code 164 = .ok (.aload_n 1, 1) := by decide +kernel
theorem d_Lw_law_165 : decode code 165 = .ok (.aload_n 0, 1) := by decide +kernel
theorem d_Lw_law_166 : decode code 166 = .ok (.iload 4, 2) := by decide +kernel
theorem d_Lw_law_168 : decode code 168 = .ok (.iconst 1, 1) := by decide +kernel
theorem d_Lw_law_169 : decode code 169 = .ok (.iadd, 1) := by decide +kernel
theorem d_Lw_law_170 : decode code 170 = .ok (.iaload, 1) := by decide +kernel
theorem d_Lw_law_171 : decode code 171 = .ok (.aload_n 0, 1) := by decide +kernel
theorem d_Lw_law_172 : decode code 172 = .ok (.iload 4, 2) := by decide +kernel
theorem d_Lw_law_174 : decode code 174 = .ok (.iconst 2, 1) := by decide +kernel
theorem d_Lw_law_175 : decode code 175 = .ok (.iadd, 1) := by decide +kernel
theorem d_Lw_law_176 : decode code 176 = .ok (.iaload, 1) := by decide +kernel
theorem d_Lw_law_177 : decode code 177 = .ok (.aload_n 3, 1) := by decide +kernel
theorem d_Lw_law_178 : decode code 178 = .ok (.invokestatic 107, 3) := by decide +kernel
theorem d_Lw_law_181 : decode code 181 = .ok (.istore 5, 2) := by decide +kernel
theorem d_Lw_law_183 : decode code 183 = .ok (.aload_n 2, 1) := by decide +kernel
theorem d_Lw_law_184 : decode code 184 = .ok (.aload_n 0, 1) := by decide +kernel
theorem d_Lw_law_185 : decode code 185 = .ok (.iload 4, 2) := by decide +kernel
theorem d_Lw_law_187 : decode code 187 = .ok (.iconst 1, 1) := by decide +kernel
theorem d_Lw_law_188 : decode code 188 = .ok (.iadd, 1) := by decide +kernel
theorem d_Lw_law_189 : decode code 189 = .ok (.iaload, 1) := by decide +kernel
theorem d_Lw_law_190 : decode code 190 = .ok (.aload_n 0, 1) := by decide +kernel
theorem d_Lw_law_191 : decode code 191 = .ok (.iload 4, 2) := by decide +kernel
theorem d_Lw_law_193 : decode code 193 = .ok (.iconst 2, 1) := by decide +kernel
theorem d_Lw_law_194 : decode code 194 = .ok (.iadd, 1) := by decide +kernel
theorem d_Lw_law_195 : decode code 195 = .ok (.iaload, 1) := by decide +kernel
theorem d_Lw_law_196 : decode code 196 = .ok (.invokevirtual 112, 3) := by decide +kernel
theorem d_Lw_law_199 : decode code 199 = .ok (.istore 6, 2) := by decide +kernel
theorem d_Lw_law_201 : decode code 201 = .ok (.aload_n 2, 1) := by decide +kernel
theorem d_Lw_law_202 : decode code 202 = .ok (.invokevirtual 113, 3) := by decide +kernel
theorem d_Lw_law_205 : decode code 205 = .ok (.iload 5, 2) := by decide +kernel
theorem d_Lw_law_207 : decode code 207 = .ok (.if_icmp .eq 5, 3) := by decide +kernel
theorem d_Lw_law_210 : decode code 210 = .ok (.iconst 0, 1) := by decide +kernel
theorem d_Lw_law_211 : decode code 211 = .ok (.ireturn, 1) := by decide +kernel
theorem d_Lw_law_212 : decode code 212 = .ok (.iload 5, 2) := by decide +kernel
theorem d_Lw_law_214 : decode code 214 = .ok (.ifCond .ne 15, 3) := by decide +kernel
theorem d_Lw_law_217 : decode code 217 = .ok (.aload_n 3, 1) := by decide +kernel
theorem d_Lw_law_218 : decode code 218 = .ok (.iconst 0, 1) := by decide +kernel
theorem d_Lw_law_219 : decode code 219 = .ok (.laload, 1) := by decide +kernel
theorem d_Lw_law_220 : decode code 220 = .ok (.iload 6, 2) := by decide +kernel
theorem d_Lw_law_222 : decode code 222 = .ok (.i2l, 1) := by decide +kernel
theorem d_Lw_law_223 : decode code 223 = .ok (.lcmp, 1) := by decide +kernel
theorem d_Lw_law_224 : decode code 224 = .ok (.ifCond .eq 5, 3) := by decide +kernel
theorem d_Lw_law_227 : decode code 227 = .ok (.iconst 0, 1) := by decide +kernel
theorem d_Lw_law_228 : decode code 228 = .ok (.ireturn, 1) := by decide +kernel
theorem d_Lw_law_229 : decode code 229 = .ok (.goto 1953, 3) := by decide +kernel
theorem d_Lw_law_232 : decode code 232 = .ok (.aload_n 1, 1) := by decide +kernel
theorem d_Lw_law_233 : decode code 233 = .ok (.aload_n 0, 1) := by decide +kernel
theorem d_Lw_law_234 : decode code 234 = .ok (.iload 4, 2) := by decide +kernel
theorem d_Lw_law_236 : decode code 236 = .ok (.iconst 1, 1) := by decide +kernel
theorem d_Lw_law_237 : decode code 237 = .ok (.iadd, 1) := by decide +kernel
theorem d_Lw_law_238 : decode code 238 = .ok (.iaload, 1) := by decide +kernel
theorem d_Lw_law_239 : decode code 239 = .ok (.aload_n 3, 1) := by decide +kernel
theorem d_Lw_law_240 : decode code 240 = .ok (.invokestatic 117, 3) := by decide +kernel
theorem d_Lw_law_243 : decode code 243 = .ok (.istore 5, 2) := by decide +kernel
theorem d_Lw_law_245 : decode code 245 = .ok (.aload_n 2, 1) := by decide +kernel
theorem d_Lw_law_246 : decode code 246 = .ok (.aload_n 0, 1) := by decide +kernel
theorem d_Lw_law_247 : decode code 247 = .ok (.iload 4, 2) := by decide +kernel
theorem d_Lw_law_249 : decode code 249 = .ok (.iconst 1, 1) := by decide +kernel
theorem d_Lw_law_250 : decode code 250 = .ok (.iadd, 1) := by decide +kernel
theorem d_Lw_law_251 : decode code 251 = .ok (.iaload, 1) := by decide +kernel
theorem d_Lw_law_252 : decode code 252 = .ok (.invokevirtual 120, 3) := by decide +kernel
theorem d_Lw_law_255 : decode code 255 = .ok (.istore 6, 2) := by decide +kernel
theorem d_Lw_law_257 : decode code 257 = .ok (.aload_n 2, 1) := by decide +kernel
theorem d_Lw_law_258 : decode code 258 = .ok (.invokevirtual 113, 3) := by decide +kernel
theorem d_Lw_law_261 : decode code 261 = .ok (.iload 5, 2) := by decide +kernel
theorem d_Lw_law_263 : decode code 263 = .ok (.if_icmp .eq 5, 3) := by decide +kernel
theorem d_Lw_law_266 : decode code 266 = .ok (.iconst 0, 1) := by decide +kernel
theorem d_Lw_law_267 : decode code 267 = .ok (.ireturn, 1) := by decide +kernel
theorem d_Lw_law_268 : decode code 268 = .ok (.iload 5, 2) := by decide +kernel
theorem d_Lw_law_270 : decode code 270 = .ok (.ifCond .ne 15, 3) := by decide +kernel
theorem d_Lw_law_273 : decode code 273 = .ok (.aload_n 3, 1) := by decide +kernel
theorem d_Lw_law_274 : decode code 274 = .ok (.iconst 0, 1) := by decide +kernel
theorem d_Lw_law_275 : decode code 275 = .ok (.laload, 1) := by decide +kernel
theorem d_Lw_law_276 : decode code 276 = .ok (.iload 6, 2) := by decide +kernel
theorem d_Lw_law_278 : decode code 278 = .ok (.i2l, 1) := by decide +kernel
theorem d_Lw_law_279 : decode code 279 = .ok (.lcmp, 1) := by decide +kernel
theorem d_Lw_law_280 : decode code 280 = .ok (.ifCond .eq 5, 3) := by decide +kernel
theorem d_Lw_law_283 : decode code 283 = .ok (.iconst 0, 1) := by decide +kernel
theorem d_Lw_law_284 : decode code 284 = .ok (.ireturn, 1) := by decide +kernel
theorem d_Lw_law_285 : decode code 285 = .ok (.goto 1897, 3) := by decide +kernel
theorem d_Lw_law_288 : decode code 288 = .ok (.aload_n 1, 1) := by decide +kernel
theorem d_Lw_law_289 : decode code 289 = .ok (.aload_n 0, 1) := by decide +kernel
theorem d_Lw_law_290 : decode code 290 = .ok (.iload 4, 2) := by decide +kernel
theorem d_Lw_law_292 : decode code 292 = .ok (.iconst 1, 1) := by decide +kernel
theorem d_Lw_law_293 : decode code 293 = .ok (.iadd, 1) := by decide +kernel
theorem d_Lw_law_294 : decode code 294 = .ok (.iaload, 1) := by decide +kernel
theorem d_Lw_law_295 : decode code 295 = .ok (.aload_n 3, 1) := by decide +kernel
theorem d_Lw_law_296 : decode code 296 = .ok (.invokestatic 121, 3) := by decide +kernel
theorem d_Lw_law_299 : decode code 299 = .ok (.istore 5, 2) := by decide +kernel
theorem d_Lw_law_301 : decode code 301 = .ok (.aload_n 2, 1) := by decide +kernel
theorem d_Lw_law_302 : decode code 302 = .ok (.aload_n 0, 1) := by decide +kernel
theorem d_Lw_law_303 : decode code 303 = .ok (.iload 4, 2) := by decide +kernel
theorem d_Lw_law_305 : decode code 305 = .ok (.iconst 1, 1) := by decide +kernel
theorem d_Lw_law_306 : decode code 306 = .ok (.iadd, 1) := by decide +kernel
theorem d_Lw_law_307 : decode code 307 = .ok (.iaload, 1) := by decide +kernel
theorem d_Lw_law_308 : decode code 308 = .ok (.invokevirtual 123, 3) := by decide +kernel
theorem d_Lw_law_311 : decode code 311 = .ok (.istore 6, 2) := by decide +kernel
theorem d_Lw_law_313 : decode code 313 = .ok (.aload_n 2, 1) := by decide +kernel
theorem d_Lw_law_314 : decode code 314 = .ok (.invokevirtual 113, 3) := by decide +kernel
theorem d_Lw_law_317 : decode code 317 = .ok (.iload 5, 2) := by decide +kernel
theorem d_Lw_law_319 : decode code 319 = .ok (.if_icmp .eq 5, 3) := by decide +kernel
theorem d_Lw_law_322 : decode code 322 = .ok (.iconst 0, 1) := by decide +kernel
theorem d_Lw_law_323 : decode code 323 = .ok (.ireturn, 1) := by decide +kernel
theorem d_Lw_law_324 : decode code 324 = .ok (.iload 5, 2) := by decide +kernel
theorem d_Lw_law_326 : decode code 326 = .ok (.ifCond .ne 15, 3) := by decide +kernel
theorem d_Lw_law_329 : decode code 329 = .ok (.aload_n 3, 1) := by decide +kernel
theorem d_Lw_law_330 : decode code 330 = .ok (.iconst 0, 1) := by decide +kernel
theorem d_Lw_law_331 : decode code 331 = .ok (.laload, 1) := by decide +kernel
theorem d_Lw_law_332 : decode code 332 = .ok (.iload 6, 2) := by decide +kernel
theorem d_Lw_law_334 : decode code 334 = .ok (.i2l, 1) := by decide +kernel
theorem d_Lw_law_335 : decode code 335 = .ok (.lcmp, 1) := by decide +kernel
theorem d_Lw_law_336 : decode code 336 = .ok (.ifCond .eq 5, 3) := by decide +kernel
theorem d_Lw_law_339 : decode code 339 = .ok (.iconst 0, 1) := by decide +kernel
theorem d_Lw_law_340 : decode code 340 = .ok (.ireturn, 1) := by decide +kernel
theorem d_Lw_law_341 : decode code 341 = .ok (.goto 1841, 3) := by decide +kernel
theorem d_Lw_law_344 : decode code 344 = .ok (.aload_n 1, 1) := by decide +kernel
theorem d_Lw_law_345 : decode code 345 = .ok (.aload_n 0, 1) := by decide +kernel
theorem d_Lw_law_346 : decode code 346 = .ok (.iload 4, 2) := by decide +kernel
theorem d_Lw_law_348 : decode code 348 = .ok (.iconst 1, 1) := by decide +kernel
theorem d_Lw_law_349 : decode code 349 = .ok (.iadd, 1) := by decide +kernel
theorem d_Lw_law_350 : decode code 350 = .ok (.iaload, 1) := by decide +kernel
theorem d_Lw_law_351 : decode code 351 = .ok (.aload_n 0, 1) := by decide +kernel
theorem d_Lw_law_352 : decode code 352 = .ok (.iload 4, 2) := by decide +kernel
theorem d_Lw_law_354 : decode code 354 = .ok (.iconst 2, 1) := by decide +kernel
theorem d_Lw_law_355 : decode code 355 = .ok (.iadd, 1) := by decide +kernel
theorem d_Lw_law_356 : decode code 356 = .ok (.iaload, 1) := by decide +kernel
theorem d_Lw_law_357 : decode code 357 = .ok (.aload_n 3, 1) := by decide +kernel
theorem d_Lw_law_358 : decode code 358 = .ok (.invokestatic 124, 3) := by decide +kernel
theorem d_Lw_law_361 : decode code 361 = .ok (.istore 5, 2) := by decide +kernel
theorem d_Lw_law_363 : decode code 363 = .ok (.aload_n 2, 1) := by decide +kernel
theorem d_Lw_law_364 : decode code 364 = .ok (.aload_n 0, 1) := by decide +kernel
theorem d_Lw_law_365 : decode code 365 = .ok (.iload 4, 2) := by decide +kernel
theorem d_Lw_law_367 : decode code 367 = .ok (.iconst 1, 1) := by decide +kernel
theorem d_Lw_law_368 : decode code 368 = .ok (.iadd, 1) := by decide +kernel
theorem d_Lw_law_369 : decode code 369 = .ok (.iaload, 1) := by decide +kernel
theorem d_Lw_law_370 : decode code 370 = .ok (.aload_n 0, 1) := by decide +kernel
theorem d_Lw_law_371 : decode code 371 = .ok (.iload 4, 2) := by decide +kernel
theorem d_Lw_law_373 : decode code 373 = .ok (.iconst 2, 1) := by decide +kernel
theorem d_Lw_law_374 : decode code 374 = .ok (.iadd, 1) := by decide +kernel
theorem d_Lw_law_375 : decode code 375 = .ok (.iaload, 1) := by decide +kernel
theorem d_Lw_law_376 : decode code 376 = .ok (.invokevirtual 126, 3) := by decide +kernel
theorem d_Lw_law_379 : decode code 379 = .ok (.istore 6, 2) := by decide +kernel
theorem d_Lw_law_381 : decode code 381 = .ok (.aload_n 2, 1) := by decide +kernel
theorem d_Lw_law_382 : decode code 382 = .ok (.invokevirtual 113, 3) := by decide +kernel
theorem d_Lw_law_385 : decode code 385 = .ok (.iload 5, 2) := by decide +kernel
theorem d_Lw_law_387 : decode code 387 = .ok (.if_icmp .eq 5, 3) := by decide +kernel
theorem d_Lw_law_390 : decode code 390 = .ok (.iconst 0, 1) := by decide +kernel
theorem d_Lw_law_391 : decode code 391 = .ok (.ireturn, 1) := by decide +kernel
theorem d_Lw_law_392 : decode code 392 = .ok (.iload 5, 2) := by decide +kernel
theorem d_Lw_law_394 : decode code 394 = .ok (.ifCond .ne 15, 3) := by decide +kernel
theorem d_Lw_law_397 : decode code 397 = .ok (.aload_n 3, 1) := by decide +kernel
theorem d_Lw_law_398 : decode code 398 = .ok (.iconst 0, 1) := by decide +kernel
theorem d_Lw_law_399 : decode code 399 = .ok (.laload, 1) := by decide +kernel
theorem d_Lw_law_400 : decode code 400 = .ok (.iload 6, 2) := by decide +kernel
theorem d_Lw_law_402 : decode code 402 = .ok (.i2l, 1) := by decide +kernel
theorem d_Lw_law_403 : decode code 403 = .ok (.lcmp, 1) := by decide +kernel
theorem d_Lw_law_404 : decode code 404 = .ok (.ifCond .eq 5, 3) := by decide +kernel
theorem d_Lw_law_407 : decode code 407 = .ok (.iconst 0, 1) := by decide +kernel
theorem d_Lw_law_408 : decode code 408 = .ok (.ireturn, 1) := by decide +kernel
theorem d_Lw_law_409 : decode code 409 = .ok (.goto 1773, 3) := by decide +kernel
theorem d_Lw_law_412 : decode code 412 = .ok (.aload_n 1, 1) := by decide +kernel
theorem d_Lw_law_413 : decode code 413 = .ok (.aload_n 0, 1) := by decide +kernel
theorem d_Lw_law_414 : decode code 414 = .ok (.iload 4, 2) := by decide +kernel
theorem d_Lw_law_416 : decode code 416 = .ok (.iconst 1, 1) := by decide +kernel
theorem d_Lw_law_417 : decode code 417 = .ok (.iadd, 1) := by decide +kernel
theorem d_Lw_law_418 : decode code 418 = .ok (.iaload, 1) := by decide +kernel
theorem d_Lw_law_419 : decode code 419 = .ok (.aload_n 0, 1) := by decide +kernel
theorem d_Lw_law_420 : decode code 420 = .ok (.iload 4, 2) := by decide +kernel
theorem d_Lw_law_422 : decode code 422 = .ok (.iconst 2, 1) := by decide +kernel
theorem d_Lw_law_423 : decode code 423 = .ok (.iadd, 1) := by decide +kernel
theorem d_Lw_law_424 : decode code 424 = .ok (.iaload, 1) := by decide +kernel
theorem d_Lw_law_425 : decode code 425 = .ok (.aload_n 0, 1) := by decide +kernel
theorem d_Lw_law_426 : decode code 426 = .ok (.iload 4, 2) := by decide +kernel
theorem d_Lw_law_428 : decode code 428 = .ok (.iconst 3, 1) := by decide +kernel
theorem d_Lw_law_429 : decode code 429 = .ok (.iadd, 1) := by decide +kernel
theorem d_Lw_law_430 : decode code 430 = .ok (.iaload, 1) := by decide +kernel
theorem d_Lw_law_431 : decode code 431 = .ok (.aload_n 3, 1) := by decide +kernel
theorem d_Lw_law_432 : decode code 432 = .ok (.invokestatic 127, 3) := by decide +kernel
theorem d_Lw_law_435 : decode code 435 = .ok (.istore 5, 2) := by decide +kernel
theorem d_Lw_law_437 : decode code 437 = .ok (.aload_n 2, 1) := by decide +kernel
theorem d_Lw_law_438 : decode code 438 = .ok (.aload_n 0, 1) := by decide +kernel
theorem d_Lw_law_439 : decode code 439 = .ok (.iload 4, 2) := by decide +kernel
theorem d_Lw_law_441 : decode code 441 = .ok (.iconst 1, 1) := by decide +kernel
theorem d_Lw_law_442 : decode code 442 = .ok (.iadd, 1) := by decide +kernel
theorem d_Lw_law_443 : decode code 443 = .ok (.iaload, 1) := by decide +kernel
theorem d_Lw_law_444 : decode code 444 = .ok (.aload_n 0, 1) := by decide +kernel
theorem d_Lw_law_445 : decode code 445 = .ok (.iload 4, 2) := by decide +kernel
theorem d_Lw_law_447 : decode code 447 = .ok (.iconst 2, 1) := by decide +kernel
theorem d_Lw_law_448 : decode code 448 = .ok (.iadd, 1) := by decide +kernel
theorem d_Lw_law_449 : decode code 449 = .ok (.iaload, 1) := by decide +kernel
theorem d_Lw_law_450 : decode code 450 = .ok (.aload_n 0, 1) := by decide +kernel
theorem d_Lw_law_451 : decode code 451 = .ok (.iload 4, 2) := by decide +kernel
theorem d_Lw_law_453 : decode code 453 = .ok (.iconst 3, 1) := by decide +kernel
theorem d_Lw_law_454 : decode code 454 = .ok (.iadd, 1) := by decide +kernel
theorem d_Lw_law_455 : decode code 455 = .ok (.iaload, 1) := by decide +kernel
theorem d_Lw_law_456 : decode code 456 = .ok (.invokevirtual 130, 3) := by decide +kernel
theorem d_Lw_law_459 : decode code 459 = .ok (.istore 6, 2) := by decide +kernel
theorem d_Lw_law_461 : decode code 461 = .ok (.aload_n 2, 1) := by decide +kernel
theorem d_Lw_law_462 : decode code 462 = .ok (.invokevirtual 113, 3) := by decide +kernel
theorem d_Lw_law_465 : decode code 465 = .ok (.iload 5, 2) := by decide +kernel
theorem d_Lw_law_467 : decode code 467 = .ok (.if_icmp .eq 5, 3) := by decide +kernel
theorem d_Lw_law_470 : decode code 470 = .ok (.iconst 0, 1) := by decide +kernel
theorem d_Lw_law_471 : decode code 471 = .ok (.ireturn, 1) := by decide +kernel
theorem d_Lw_law_472 : decode code 472 = .ok (.iload 5, 2) := by decide +kernel
theorem d_Lw_law_474 : decode code 474 = .ok (.ifCond .ne 22, 3) := by decide +kernel
theorem d_Lw_law_477 : decode code 477 = .ok (.aload_n 3, 1) := by decide +kernel
theorem d_Lw_law_478 : decode code 478 = .ok (.iconst 0, 1) := by decide +kernel
theorem d_Lw_law_479 : decode code 479 = .ok (.laload, 1) := by decide +kernel
theorem d_Lw_law_480 : decode code 480 = .ok (.iload 6, 2) := by decide +kernel
theorem d_Lw_law_482 : decode code 482 = .ok (.ifCond .eq 7, 3) := by decide +kernel
theorem d_Lw_law_485 : decode code 485 = .ok (.lconst 1, 1) := by decide +kernel
theorem d_Lw_law_486 : decode code 486 = .ok (.goto 4, 3) := by decide +kernel
theorem d_Lw_law_489 : decode code 489 = .ok (.lconst 0, 1) := by decide +kernel
theorem d_Lw_law_490 : decode code 490 = .ok (.lcmp, 1) := by decide +kernel
theorem d_Lw_law_491 : decode code 491 = .ok (.ifCond .eq 5, 3) := by decide +kernel
theorem d_Lw_law_494 : decode code 494 = .ok (.iconst 0, 1) := by decide +kernel
theorem d_Lw_law_495 : decode code 495 = .ok (.ireturn, 1) := by decide +kernel
theorem d_Lw_law_496 : decode code 496 = .ok (.goto 1686, 3) := by decide +kernel
theorem d_Lw_law_499 : decode code 499 = .ok (.aload_n 1, 1) := by decide +kernel
theorem d_Lw_law_500 : decode code 500 = .ok (.aload_n 0, 1) := by decide +kernel
theorem d_Lw_law_501 : decode code 501 = .ok (.iload 4, 2) := by decide +kernel
theorem d_Lw_law_503 : decode code 503 = .ok (.iconst 1, 1) := by decide +kernel
theorem d_Lw_law_504 : decode code 504 = .ok (.iadd, 1) := by decide +kernel
theorem d_Lw_law_505 : decode code 505 = .ok (.iaload, 1) := by decide +kernel
theorem d_Lw_law_506 : decode code 506 = .ok (.aload_n 0, 1) := by decide +kernel
theorem d_Lw_law_507 : decode code 507 = .ok (.iload 4, 2) := by decide +kernel
theorem d_Lw_law_509 : decode code 509 = .ok (.iconst 2, 1) := by decide +kernel
theorem d_Lw_law_510 : decode code 510 = .ok (.iadd, 1) := by decide +kernel
theorem d_Lw_law_511 : decode code 511 = .ok (.iaload, 1) := by decide +kernel
theorem d_Lw_law_512 : decode code 512 = .ok (.aload_n 0, 1) := by decide +kernel
theorem d_Lw_law_513 : decode code 513 = .ok (.iload 4, 2) := by decide +kernel
theorem d_Lw_law_515 : decode code 515 = .ok (.iconst 3, 1) := by decide +kernel
theorem d_Lw_law_516 : decode code 516 = .ok (.iadd, 1) := by decide +kernel
theorem d_Lw_law_517 : decode code 517 = .ok (.iaload, 1) := by decide +kernel
theorem d_Lw_law_518 : decode code 518 = .ok (.aload_n 0, 1) := by decide +kernel
theorem d_Lw_law_519 : decode code 519 = .ok (.iload 4, 2) := by decide +kernel
theorem d_Lw_law_521 : decode code 521 = .ok (.iconst 4, 1) := by decide +kernel
theorem d_Lw_law_522 : decode code 522 = .ok (.iadd, 1) := by decide +kernel
theorem d_Lw_law_523 : decode code 523 = .ok (.iaload, 1) := by decide +kernel
theorem d_Lw_law_524 : decode code 524 = .ok (.aload_n 3, 1) := by decide +kernel
theorem d_Lw_law_525 : decode code 525 = .ok (.invokestatic 131, 3) := by decide +kernel
theorem d_Lw_law_528 : decode code 528 = .ok (.istore 5, 2) := by decide +kernel
theorem d_Lw_law_530 : decode code 530 = .ok (.aload_n 2, 1) := by decide +kernel
theorem d_Lw_law_531 : decode code 531 = .ok (.aload_n 0, 1) := by decide +kernel
theorem d_Lw_law_532 : decode code 532 = .ok (.iload 4, 2) := by decide +kernel
theorem d_Lw_law_534 : decode code 534 = .ok (.iconst 1, 1) := by decide +kernel
theorem d_Lw_law_535 : decode code 535 = .ok (.iadd, 1) := by decide +kernel
theorem d_Lw_law_536 : decode code 536 = .ok (.iaload, 1) := by decide +kernel
theorem d_Lw_law_537 : decode code 537 = .ok (.aload_n 0, 1) := by decide +kernel
theorem d_Lw_law_538 : decode code 538 = .ok (.iload 4, 2) := by decide +kernel
theorem d_Lw_law_540 : decode code 540 = .ok (.iconst 2, 1) := by decide +kernel
theorem d_Lw_law_541 : decode code 541 = .ok (.iadd, 1) := by decide +kernel
theorem d_Lw_law_542 : decode code 542 = .ok (.iaload, 1) := by decide +kernel
theorem d_Lw_law_543 : decode code 543 = .ok (.aload_n 0, 1) := by decide +kernel
theorem d_Lw_law_544 : decode code 544 = .ok (.iload 4, 2) := by decide +kernel
theorem d_Lw_law_546 : decode code 546 = .ok (.iconst 3, 1) := by decide +kernel
theorem d_Lw_law_547 : decode code 547 = .ok (.iadd, 1) := by decide +kernel
theorem d_Lw_law_548 : decode code 548 = .ok (.iaload, 1) := by decide +kernel
theorem d_Lw_law_549 : decode code 549 = .ok (.aload_n 0, 1) := by decide +kernel
theorem d_Lw_law_550 : decode code 550 = .ok (.iload 4, 2) := by decide +kernel
theorem d_Lw_law_552 : decode code 552 = .ok (.iconst 4, 1) := by decide +kernel
theorem d_Lw_law_553 : decode code 553 = .ok (.iadd, 1) := by decide +kernel
theorem d_Lw_law_554 : decode code 554 = .ok (.iaload, 1) := by decide +kernel
theorem d_Lw_law_555 : decode code 555 = .ok (.invokevirtual 134, 3) := by decide +kernel
theorem d_Lw_law_558 : decode code 558 = .ok (.istore 6, 2) := by decide +kernel
theorem d_Lw_law_560 : decode code 560 = .ok (.aload_n 2, 1) := by decide +kernel
theorem d_Lw_law_561 : decode code 561 = .ok (.invokevirtual 113, 3) := by decide +kernel
theorem d_Lw_law_564 : decode code 564 = .ok (.iload 5, 2) := by decide +kernel
theorem d_Lw_law_566 : decode code 566 = .ok (.if_icmp .eq 5, 3) := by decide +kernel
theorem d_Lw_law_569 : decode code 569 = .ok (.iconst 0, 1) := by decide +kernel
theorem d_Lw_law_570 : decode code 570 = .ok (.ireturn, 1) := by decide +kernel
theorem d_Lw_law_571 : decode code 571 = .ok (.iload 5, 2) := by decide +kernel
theorem d_Lw_law_573 : decode code 573 = .ok (.ifCond .ne 15, 3) := by decide +kernel
theorem d_Lw_law_576 : decode code 576 = .ok (.aload_n 3, 1) := by decide +kernel
theorem d_Lw_law_577 : decode code 577 = .ok (.iconst 0, 1) := by decide +kernel
theorem d_Lw_law_578 : decode code 578 = .ok (.laload, 1) := by decide +kernel
theorem d_Lw_law_579 : decode code 579 = .ok (.iload 6, 2) := by decide +kernel
theorem d_Lw_law_581 : decode code 581 = .ok (.i2l, 1) := by decide +kernel
theorem d_Lw_law_582 : decode code 582 = .ok (.lcmp, 1) := by decide +kernel
theorem d_Lw_law_583 : decode code 583 = .ok (.ifCond .eq 5, 3) := by decide +kernel
theorem d_Lw_law_586 : decode code 586 = .ok (.iconst 0, 1) := by decide +kernel
theorem d_Lw_law_587 : decode code 587 = .ok (.ireturn, 1) := by decide +kernel
theorem d_Lw_law_588 : decode code 588 = .ok (.goto 1594, 3) := by decide +kernel
theorem d_Lw_law_591 : decode code 591 = .ok (.aload_n 1, 1) := by decide +kernel
theorem d_Lw_law_592 : decode code 592 = .ok (.aload_n 0, 1) := by decide +kernel
theorem d_Lw_law_593 : decode code 593 = .ok (.iload 4, 2) := by decide +kernel
theorem d_Lw_law_595 : decode code 595 = .ok (.iconst 1, 1) := by decide +kernel
theorem d_Lw_law_596 : decode code 596 = .ok (.iadd, 1) := by decide +kernel
theorem d_Lw_law_597 : decode code 597 = .ok (.iaload, 1) := by decide +kernel
theorem d_Lw_law_598 : decode code 598 = .ok (.aload_n 0, 1) := by decide +kernel
theorem d_Lw_law_599 : decode code 599 = .ok (.iload 4, 2) := by decide +kernel
theorem d_Lw_law_601 : decode code 601 = .ok (.iconst 2, 1) := by decide +kernel
theorem d_Lw_law_602 : decode code 602 = .ok (.iadd, 1) := by decide +kernel
theorem d_Lw_law_603 : decode code 603 = .ok (.iaload, 1) := by decide +kernel
theorem d_Lw_law_604 : decode code 604 = .ok (.aload_n 3, 1) := by decide +kernel
theorem d_Lw_law_605 : decode code 605 = .ok (.invokestatic 135, 3) := by decide +kernel
theorem d_Lw_law_608 : decode code 608 = .ok (.istore 5, 2) := by decide +kernel
theorem d_Lw_law_610 : decode code 610 = .ok (.aload_n 2, 1) := by decide +kernel
theorem d_Lw_law_611 : decode code 611 = .ok (.aload_n 0, 1) := by decide +kernel
theorem d_Lw_law_612 : decode code 612 = .ok (.iload 4, 2) := by decide +kernel
theorem d_Lw_law_614 : decode code 614 = .ok (.iconst 1, 1) := by decide +kernel
theorem d_Lw_law_615 : decode code 615 = .ok (.iadd, 1) := by decide +kernel
theorem d_Lw_law_616 : decode code 616 = .ok (.iaload, 1) := by decide +kernel
theorem d_Lw_law_617 : decode code 617 = .ok (.aload_n 0, 1) := by decide +kernel
theorem d_Lw_law_618 : decode code 618 = .ok (.iload 4, 2) := by decide +kernel
theorem d_Lw_law_620 : decode code 620 = .ok (.iconst 2, 1) := by decide +kernel
theorem d_Lw_law_621 : decode code 621 = .ok (.iadd, 1) := by decide +kernel
theorem d_Lw_law_622 : decode code 622 = .ok (.iaload, 1) := by decide +kernel
theorem d_Lw_law_623 : decode code 623 = .ok (.invokevirtual 137, 3) := by decide +kernel
theorem d_Lw_law_626 : decode code 626 = .ok (.istore 6, 2) := by decide +kernel
theorem d_Lw_law_628 : decode code 628 = .ok (.aload_n 2, 1) := by decide +kernel
theorem d_Lw_law_629 : decode code 629 = .ok (.invokevirtual 113, 3) := by decide +kernel
theorem d_Lw_law_632 : decode code 632 = .ok (.iload 5, 2) := by decide +kernel
theorem d_Lw_law_634 : decode code 634 = .ok (.if_icmp .eq 5, 3) := by decide +kernel
theorem d_Lw_law_637 : decode code 637 = .ok (.iconst 0, 1) := by decide +kernel
theorem d_Lw_law_638 : decode code 638 = .ok (.ireturn, 1) := by decide +kernel
theorem d_Lw_law_639 : decode code 639 = .ok (.iload 5, 2) := by decide +kernel
theorem d_Lw_law_641 : decode code 641 = .ok (.ifCond .ne 22, 3) := by decide +kernel
theorem d_Lw_law_644 : decode code 644 = .ok (.aload_n 3, 1) := by decide +kernel
theorem d_Lw_law_645 : decode code 645 = .ok (.iconst 0, 1) := by decide +kernel
theorem d_Lw_law_646 : decode code 646 = .ok (.laload, 1) := by decide +kernel
theorem d_Lw_law_647 : decode code 647 = .ok (.iload 6, 2) := by decide +kernel
theorem d_Lw_law_649 : decode code 649 = .ok (.ifCond .eq 7, 3) := by decide +kernel
theorem d_Lw_law_652 : decode code 652 = .ok (.lconst 1, 1) := by decide +kernel
theorem d_Lw_law_653 : decode code 653 = .ok (.goto 4, 3) := by decide +kernel
theorem d_Lw_law_656 : decode code 656 = .ok (.lconst 0, 1) := by decide +kernel
theorem d_Lw_law_657 : decode code 657 = .ok (.lcmp, 1) := by decide +kernel
theorem d_Lw_law_658 : decode code 658 = .ok (.ifCond .eq 5, 3) := by decide +kernel
theorem d_Lw_law_661 : decode code 661 = .ok (.iconst 0, 1) := by decide +kernel
theorem d_Lw_law_662 : decode code 662 = .ok (.ireturn, 1) := by decide +kernel
theorem d_Lw_law_663 : decode code 663 = .ok (.goto 1519, 3) := by decide +kernel
theorem d_Lw_law_666 : decode code 666 = .ok (.aload_n 1, 1) := by decide +kernel
theorem d_Lw_law_667 : decode code 667 = .ok (.aload_n 0, 1) := by decide +kernel
theorem d_Lw_law_668 : decode code 668 = .ok (.iload 4, 2) := by decide +kernel
theorem d_Lw_law_670 : decode code 670 = .ok (.iconst 1, 1) := by decide +kernel
theorem d_Lw_law_671 : decode code 671 = .ok (.iadd, 1) := by decide +kernel
theorem d_Lw_law_672 : decode code 672 = .ok (.iaload, 1) := by decide +kernel
theorem d_Lw_law_673 : decode code 673 = .ok (.aload_n 0, 1) := by decide +kernel
theorem d_Lw_law_674 : decode code 674 = .ok (.iload 4, 2) := by decide +kernel
theorem d_Lw_law_676 : decode code 676 = .ok (.iconst 2, 1) := by decide +kernel
theorem d_Lw_law_677 : decode code 677 = .ok (.iadd, 1) := by decide +kernel
theorem d_Lw_law_678 : decode code 678 = .ok (.iaload, 1) := by decide +kernel
theorem d_Lw_law_679 : decode code 679 = .ok (.aload_n 3, 1) := by decide +kernel
theorem d_Lw_law_680 : decode code 680 = .ok (.invokestatic 138, 3) := by decide +kernel
theorem d_Lw_law_683 : decode code 683 = .ok (.istore 5, 2) := by decide +kernel
theorem d_Lw_law_685 : decode code 685 = .ok (.aload_n 2, 1) := by decide +kernel
theorem d_Lw_law_686 : decode code 686 = .ok (.aload_n 0, 1) := by decide +kernel
theorem d_Lw_law_687 : decode code 687 = .ok (.iload 4, 2) := by decide +kernel
theorem d_Lw_law_689 : decode code 689 = .ok (.iconst 1, 1) := by decide +kernel
theorem d_Lw_law_690 : decode code 690 = .ok (.iadd, 1) := by decide +kernel
theorem d_Lw_law_691 : decode code 691 = .ok (.iaload, 1) := by decide +kernel
theorem d_Lw_law_692 : decode code 692 = .ok (.aload_n 0, 1) := by decide +kernel
theorem d_Lw_law_693 : decode code 693 = .ok (.iload 4, 2) := by decide +kernel
theorem d_Lw_law_695 : decode code 695 = .ok (.iconst 2, 1) := by decide +kernel
theorem d_Lw_law_696 : decode code 696 = .ok (.iadd, 1) := by decide +kernel
theorem d_Lw_law_697 : decode code 697 = .ok (.iaload, 1) := by decide +kernel
theorem d_Lw_law_698 : decode code 698 = .ok (.invokevirtual 140, 3) := by decide +kernel
theorem d_Lw_law_701 : decode code 701 = .ok (.istore 6, 2) := by decide +kernel
theorem d_Lw_law_703 : decode code 703 = .ok (.aload_n 2, 1) := by decide +kernel
theorem d_Lw_law_704 : decode code 704 = .ok (.invokevirtual 113, 3) := by decide +kernel
theorem d_Lw_law_707 : decode code 707 = .ok (.iload 5, 2) := by decide +kernel
theorem d_Lw_law_709 : decode code 709 = .ok (.if_icmp .eq 5, 3) := by decide +kernel
theorem d_Lw_law_712 : decode code 712 = .ok (.iconst 0, 1) := by decide +kernel
theorem d_Lw_law_713 : decode code 713 = .ok (.ireturn, 1) := by decide +kernel
theorem d_Lw_law_714 : decode code 714 = .ok (.iload 5, 2) := by decide +kernel
theorem d_Lw_law_716 : decode code 716 = .ok (.ifCond .ne 15, 3) := by decide +kernel
theorem d_Lw_law_719 : decode code 719 = .ok (.aload_n 3, 1) := by decide +kernel
theorem d_Lw_law_720 : decode code 720 = .ok (.iconst 0, 1) := by decide +kernel
theorem d_Lw_law_721 : decode code 721 = .ok (.laload, 1) := by decide +kernel
theorem d_Lw_law_722 : decode code 722 = .ok (.iload 6, 2) := by decide +kernel
theorem d_Lw_law_724 : decode code 724 = .ok (.i2l, 1) := by decide +kernel
theorem d_Lw_law_725 : decode code 725 = .ok (.lcmp, 1) := by decide +kernel
theorem d_Lw_law_726 : decode code 726 = .ok (.ifCond .eq 5, 3) := by decide +kernel
theorem d_Lw_law_729 : decode code 729 = .ok (.iconst 0, 1) := by decide +kernel
theorem d_Lw_law_730 : decode code 730 = .ok (.ireturn, 1) := by decide +kernel
theorem d_Lw_law_731 : decode code 731 = .ok (.goto 1451, 3) := by decide +kernel
theorem d_Lw_law_734 : decode code 734 = .ok (.aload_n 1, 1) := by decide +kernel
theorem d_Lw_law_735 : decode code 735 = .ok (.aload_n 0, 1) := by decide +kernel
theorem d_Lw_law_736 : decode code 736 = .ok (.iload 4, 2) := by decide +kernel
theorem d_Lw_law_738 : decode code 738 = .ok (.iconst 1, 1) := by decide +kernel
theorem d_Lw_law_739 : decode code 739 = .ok (.iadd, 1) := by decide +kernel
theorem d_Lw_law_740 : decode code 740 = .ok (.iaload, 1) := by decide +kernel
theorem d_Lw_law_741 : decode code 741 = .ok (.aload_n 0, 1) := by decide +kernel
theorem d_Lw_law_742 : decode code 742 = .ok (.iload 4, 2) := by decide +kernel
theorem d_Lw_law_744 : decode code 744 = .ok (.iconst 2, 1) := by decide +kernel
theorem d_Lw_law_745 : decode code 745 = .ok (.iadd, 1) := by decide +kernel
theorem d_Lw_law_746 : decode code 746 = .ok (.iaload, 1) := by decide +kernel
theorem d_Lw_law_747 : decode code 747 = .ok (.aload_n 0, 1) := by decide +kernel
theorem d_Lw_law_748 : decode code 748 = .ok (.iload 4, 2) := by decide +kernel
theorem d_Lw_law_750 : decode code 750 = .ok (.iconst 3, 1) := by decide +kernel
theorem d_Lw_law_751 : decode code 751 = .ok (.iadd, 1) := by decide +kernel
theorem d_Lw_law_752 : decode code 752 = .ok (.iaload, 1) := by decide +kernel
theorem d_Lw_law_753 : decode code 753 = .ok (.aload_n 3, 1) := by decide +kernel
theorem d_Lw_law_754 : decode code 754 = .ok (.invokestatic 141, 3) := by decide +kernel
theorem d_Lw_law_757 : decode code 757 = .ok (.istore 5, 2) := by decide +kernel
theorem d_Lw_law_759 : decode code 759 = .ok (.aload_n 2, 1) := by decide +kernel
theorem d_Lw_law_760 : decode code 760 = .ok (.aload_n 0, 1) := by decide +kernel
theorem d_Lw_law_761 : decode code 761 = .ok (.iload 4, 2) := by decide +kernel
theorem d_Lw_law_763 : decode code 763 = .ok (.iconst 1, 1) := by decide +kernel
theorem d_Lw_law_764 : decode code 764 = .ok (.iadd, 1) := by decide +kernel
theorem d_Lw_law_765 : decode code 765 = .ok (.iaload, 1) := by decide +kernel
theorem d_Lw_law_766 : decode code 766 = .ok (.aload_n 0, 1) := by decide +kernel
theorem d_Lw_law_767 : decode code 767 = .ok (.iload 4, 2) := by decide +kernel
theorem d_Lw_law_769 : decode code 769 = .ok (.iconst 2, 1) := by decide +kernel
theorem d_Lw_law_770 : decode code 770 = .ok (.iadd, 1) := by decide +kernel
theorem d_Lw_law_771 : decode code 771 = .ok (.iaload, 1) := by decide +kernel
theorem d_Lw_law_772 : decode code 772 = .ok (.aload_n 0, 1) := by decide +kernel
theorem d_Lw_law_773 : decode code 773 = .ok (.iload 4, 2) := by decide +kernel
theorem d_Lw_law_775 : decode code 775 = .ok (.iconst 3, 1) := by decide +kernel
theorem d_Lw_law_776 : decode code 776 = .ok (.iadd, 1) := by decide +kernel
theorem d_Lw_law_777 : decode code 777 = .ok (.iaload, 1) := by decide +kernel
theorem d_Lw_law_778 : decode code 778 = .ok (.invokevirtual 143, 3) := by decide +kernel
theorem d_Lw_law_781 : decode code 781 = .ok (.istore 6, 2) := by decide +kernel
theorem d_Lw_law_783 : decode code 783 = .ok (.aload_n 2, 1) := by decide +kernel
theorem d_Lw_law_784 : decode code 784 = .ok (.invokevirtual 113, 3) := by decide +kernel
theorem d_Lw_law_787 : decode code 787 = .ok (.iload 5, 2) := by decide +kernel
theorem d_Lw_law_789 : decode code 789 = .ok (.if_icmp .eq 5, 3) := by decide +kernel
theorem d_Lw_law_792 : decode code 792 = .ok (.iconst 0, 1) := by decide +kernel
theorem d_Lw_law_793 : decode code 793 = .ok (.ireturn, 1) := by decide +kernel
theorem d_Lw_law_794 : decode code 794 = .ok (.iload 5, 2) := by decide +kernel
theorem d_Lw_law_796 : decode code 796 = .ok (.ifCond .ne 15, 3) := by decide +kernel
theorem d_Lw_law_799 : decode code 799 = .ok (.aload_n 3, 1) := by decide +kernel
theorem d_Lw_law_800 : decode code 800 = .ok (.iconst 0, 1) := by decide +kernel
theorem d_Lw_law_801 : decode code 801 = .ok (.laload, 1) := by decide +kernel
theorem d_Lw_law_802 : decode code 802 = .ok (.iload 6, 2) := by decide +kernel
theorem d_Lw_law_804 : decode code 804 = .ok (.i2l, 1) := by decide +kernel
theorem d_Lw_law_805 : decode code 805 = .ok (.lcmp, 1) := by decide +kernel
theorem d_Lw_law_806 : decode code 806 = .ok (.ifCond .eq 5, 3) := by decide +kernel
theorem d_Lw_law_809 : decode code 809 = .ok (.iconst 0, 1) := by decide +kernel
theorem d_Lw_law_810 : decode code 810 = .ok (.ireturn, 1) := by decide +kernel
theorem d_Lw_law_811 : decode code 811 = .ok (.goto 1371, 3) := by decide +kernel
theorem d_Lw_law_814 : decode code 814 = .ok (.aload_n 1, 1) := by decide +kernel
theorem d_Lw_law_815 : decode code 815 = .ok (.aload_n 0, 1) := by decide +kernel
theorem d_Lw_law_816 : decode code 816 = .ok (.iload 4, 2) := by decide +kernel
theorem d_Lw_law_818 : decode code 818 = .ok (.iconst 1, 1) := by decide +kernel
theorem d_Lw_law_819 : decode code 819 = .ok (.iadd, 1) := by decide +kernel
theorem d_Lw_law_820 : decode code 820 = .ok (.iaload, 1) := by decide +kernel
theorem d_Lw_law_821 : decode code 821 = .ok (.aload_n 0, 1) := by decide +kernel
theorem d_Lw_law_822 : decode code 822 = .ok (.iload 4, 2) := by decide +kernel
theorem d_Lw_law_824 : decode code 824 = .ok (.iconst 2, 1) := by decide +kernel
theorem d_Lw_law_825 : decode code 825 = .ok (.iadd, 1) := by decide +kernel
theorem d_Lw_law_826 : decode code 826 = .ok (.iaload, 1) := by decide +kernel
theorem d_Lw_law_827 : decode code 827 = .ok (.aload_n 3, 1) := by decide +kernel
theorem d_Lw_law_828 : decode code 828 = .ok (.invokestatic 144, 3) := by decide +kernel
theorem d_Lw_law_831 : decode code 831 = .ok (.istore 5, 2) := by decide +kernel
theorem d_Lw_law_833 : decode code 833 = .ok (.aload_n 2, 1) := by decide +kernel
theorem d_Lw_law_834 : decode code 834 = .ok (.aload_n 0, 1) := by decide +kernel
theorem d_Lw_law_835 : decode code 835 = .ok (.iload 4, 2) := by decide +kernel
theorem d_Lw_law_837 : decode code 837 = .ok (.iconst 1, 1) := by decide +kernel
theorem d_Lw_law_838 : decode code 838 = .ok (.iadd, 1) := by decide +kernel
theorem d_Lw_law_839 : decode code 839 = .ok (.iaload, 1) := by decide +kernel
theorem d_Lw_law_840 : decode code 840 = .ok (.aload_n 0, 1) := by decide +kernel
theorem d_Lw_law_841 : decode code 841 = .ok (.iload 4, 2) := by decide +kernel
theorem d_Lw_law_843 : decode code 843 = .ok (.iconst 2, 1) := by decide +kernel
theorem d_Lw_law_844 : decode code 844 = .ok (.iadd, 1) := by decide +kernel
theorem d_Lw_law_845 : decode code 845 = .ok (.iaload, 1) := by decide +kernel
theorem d_Lw_law_846 : decode code 846 = .ok (.invokevirtual 146, 3) := by decide +kernel
theorem d_Lw_law_849 : decode code 849 = .ok (.istore 6, 2) := by decide +kernel
theorem d_Lw_law_851 : decode code 851 = .ok (.aload_n 2, 1) := by decide +kernel
theorem d_Lw_law_852 : decode code 852 = .ok (.invokevirtual 113, 3) := by decide +kernel
theorem d_Lw_law_855 : decode code 855 = .ok (.iload 5, 2) := by decide +kernel
theorem d_Lw_law_857 : decode code 857 = .ok (.if_icmp .eq 5, 3) := by decide +kernel
theorem d_Lw_law_860 : decode code 860 = .ok (.iconst 0, 1) := by decide +kernel
theorem d_Lw_law_861 : decode code 861 = .ok (.ireturn, 1) := by decide +kernel
theorem d_Lw_law_862 : decode code 862 = .ok (.iload 5, 2) := by decide +kernel
theorem d_Lw_law_864 : decode code 864 = .ok (.ifCond .ne 15, 3) := by decide +kernel
theorem d_Lw_law_867 : decode code 867 = .ok (.aload_n 3, 1) := by decide +kernel
theorem d_Lw_law_868 : decode code 868 = .ok (.iconst 0, 1) := by decide +kernel
theorem d_Lw_law_869 : decode code 869 = .ok (.laload, 1) := by decide +kernel
theorem d_Lw_law_870 : decode code 870 = .ok (.iload 6, 2) := by decide +kernel
theorem d_Lw_law_872 : decode code 872 = .ok (.i2l, 1) := by decide +kernel
theorem d_Lw_law_873 : decode code 873 = .ok (.lcmp, 1) := by decide +kernel
theorem d_Lw_law_874 : decode code 874 = .ok (.ifCond .eq 5, 3) := by decide +kernel
theorem d_Lw_law_877 : decode code 877 = .ok (.iconst 0, 1) := by decide +kernel
theorem d_Lw_law_878 : decode code 878 = .ok (.ireturn, 1) := by decide +kernel
theorem d_Lw_law_879 : decode code 879 = .ok (.goto 1303, 3) := by decide +kernel
theorem d_Lw_law_882 : decode code 882 = .ok (.aload_n 1, 1) := by decide +kernel
theorem d_Lw_law_883 : decode code 883 = .ok (.aload_n 0, 1) := by decide +kernel
theorem d_Lw_law_884 : decode code 884 = .ok (.iload 4, 2) := by decide +kernel
theorem d_Lw_law_886 : decode code 886 = .ok (.iconst 1, 1) := by decide +kernel
theorem d_Lw_law_887 : decode code 887 = .ok (.iadd, 1) := by decide +kernel
theorem d_Lw_law_888 : decode code 888 = .ok (.iaload, 1) := by decide +kernel
theorem d_Lw_law_889 : decode code 889 = .ok (.aload_n 0, 1) := by decide +kernel
theorem d_Lw_law_890 : decode code 890 = .ok (.iload 4, 2) := by decide +kernel
theorem d_Lw_law_892 : decode code 892 = .ok (.iconst 2, 1) := by decide +kernel
theorem d_Lw_law_893 : decode code 893 = .ok (.iadd, 1) := by decide +kernel
theorem d_Lw_law_894 : decode code 894 = .ok (.iaload, 1) := by decide +kernel
theorem d_Lw_law_895 : decode code 895 = .ok (.aload_n 3, 1) := by decide +kernel
theorem d_Lw_law_896 : decode code 896 = .ok (.invokestatic 147, 3) := by decide +kernel
theorem d_Lw_law_899 : decode code 899 = .ok (.istore 5, 2) := by decide +kernel
theorem d_Lw_law_901 : decode code 901 = .ok (.aload_n 2, 1) := by decide +kernel
theorem d_Lw_law_902 : decode code 902 = .ok (.aload_n 0, 1) := by decide +kernel
theorem d_Lw_law_903 : decode code 903 = .ok (.iload 4, 2) := by decide +kernel
theorem d_Lw_law_905 : decode code 905 = .ok (.iconst 1, 1) := by decide +kernel
theorem d_Lw_law_906 : decode code 906 = .ok (.iadd, 1) := by decide +kernel
theorem d_Lw_law_907 : decode code 907 = .ok (.iaload, 1) := by decide +kernel
theorem d_Lw_law_908 : decode code 908 = .ok (.aload_n 0, 1) := by decide +kernel
theorem d_Lw_law_909 : decode code 909 = .ok (.iload 4, 2) := by decide +kernel
theorem d_Lw_law_911 : decode code 911 = .ok (.iconst 2, 1) := by decide +kernel
theorem d_Lw_law_912 : decode code 912 = .ok (.iadd, 1) := by decide +kernel
theorem d_Lw_law_913 : decode code 913 = .ok (.iaload, 1) := by decide +kernel
theorem d_Lw_law_914 : decode code 914 = .ok (.invokevirtual 149, 3) := by decide +kernel
theorem d_Lw_law_917 : decode code 917 = .ok (.istore 6, 2) := by decide +kernel
theorem d_Lw_law_919 : decode code 919 = .ok (.aload_n 2, 1) := by decide +kernel
theorem d_Lw_law_920 : decode code 920 = .ok (.invokevirtual 113, 3) := by decide +kernel
theorem d_Lw_law_923 : decode code 923 = .ok (.iload 5, 2) := by decide +kernel
theorem d_Lw_law_925 : decode code 925 = .ok (.if_icmp .eq 5, 3) := by decide +kernel
theorem d_Lw_law_928 : decode code 928 = .ok (.iconst 0, 1) := by decide +kernel
theorem d_Lw_law_929 : decode code 929 = .ok (.ireturn, 1) := by decide +kernel
theorem d_Lw_law_930 : decode code 930 = .ok (.iload 5, 2) := by decide +kernel
theorem d_Lw_law_932 : decode code 932 = .ok (.ifCond .ne 15, 3) := by decide +kernel
theorem d_Lw_law_935 : decode code 935 = .ok (.aload_n 3, 1) := by decide +kernel
theorem d_Lw_law_936 : decode code 936 = .ok (.iconst 0, 1) := by decide +kernel
theorem d_Lw_law_937 : decode code 937 = .ok (.laload, 1) := by decide +kernel
theorem d_Lw_law_938 : decode code 938 = .ok (.iload 6, 2) := by decide +kernel
theorem d_Lw_law_940 : decode code 940 = .ok (.i2l, 1) := by decide +kernel
theorem d_Lw_law_941 : decode code 941 = .ok (.lcmp, 1) := by decide +kernel
theorem d_Lw_law_942 : decode code 942 = .ok (.ifCond .eq 5, 3) := by decide +kernel
theorem d_Lw_law_945 : decode code 945 = .ok (.iconst 0, 1) := by decide +kernel
theorem d_Lw_law_946 : decode code 946 = .ok (.ireturn, 1) := by decide +kernel
theorem d_Lw_law_947 : decode code 947 = .ok (.goto 1235, 3) := by decide +kernel
theorem d_Lw_law_950 : decode code 950 = .ok (.aload_n 1, 1) := by decide +kernel
theorem d_Lw_law_951 : decode code 951 = .ok (.aload_n 0, 1) := by decide +kernel
theorem d_Lw_law_952 : decode code 952 = .ok (.iload 4, 2) := by decide +kernel
theorem d_Lw_law_954 : decode code 954 = .ok (.iconst 1, 1) := by decide +kernel
theorem d_Lw_law_955 : decode code 955 = .ok (.iadd, 1) := by decide +kernel
theorem d_Lw_law_956 : decode code 956 = .ok (.iaload, 1) := by decide +kernel
theorem d_Lw_law_957 : decode code 957 = .ok (.aload_n 0, 1) := by decide +kernel
theorem d_Lw_law_958 : decode code 958 = .ok (.iload 4, 2) := by decide +kernel
theorem d_Lw_law_960 : decode code 960 = .ok (.iconst 2, 1) := by decide +kernel
theorem d_Lw_law_961 : decode code 961 = .ok (.iadd, 1) := by decide +kernel
theorem d_Lw_law_962 : decode code 962 = .ok (.iaload, 1) := by decide +kernel
theorem d_Lw_law_963 : decode code 963 = .ok (.aload_n 0, 1) := by decide +kernel
theorem d_Lw_law_964 : decode code 964 = .ok (.iload 4, 2) := by decide +kernel
theorem d_Lw_law_966 : decode code 966 = .ok (.iconst 3, 1) := by decide +kernel
theorem d_Lw_law_967 : decode code 967 = .ok (.iadd, 1) := by decide +kernel
theorem d_Lw_law_968 : decode code 968 = .ok (.iaload, 1) := by decide +kernel
theorem d_Lw_law_969 : decode code 969 = .ok (.aload_n 3, 1) := by decide +kernel
theorem d_Lw_law_970 : decode code 970 = .ok (.invokestatic 150, 3) := by decide +kernel
theorem d_Lw_law_973 : decode code 973 = .ok (.istore 5, 2) := by decide +kernel
theorem d_Lw_law_975 : decode code 975 = .ok (.aload_n 2, 1) := by decide +kernel
theorem d_Lw_law_976 : decode code 976 = .ok (.aload_n 0, 1) := by decide +kernel
theorem d_Lw_law_977 : decode code 977 = .ok (.iload 4, 2) := by decide +kernel
theorem d_Lw_law_979 : decode code 979 = .ok (.iconst 1, 1) := by decide +kernel
theorem d_Lw_law_980 : decode code 980 = .ok (.iadd, 1) := by decide +kernel
theorem d_Lw_law_981 : decode code 981 = .ok (.iaload, 1) := by decide +kernel
theorem d_Lw_law_982 : decode code 982 = .ok (.aload_n 0, 1) := by decide +kernel
theorem d_Lw_law_983 : decode code 983 = .ok (.iload 4, 2) := by decide +kernel
theorem d_Lw_law_985 : decode code 985 = .ok (.iconst 2, 1) := by decide +kernel
theorem d_Lw_law_986 : decode code 986 = .ok (.iadd, 1) := by decide +kernel
theorem d_Lw_law_987 : decode code 987 = .ok (.iaload, 1) := by decide +kernel
theorem d_Lw_law_988 : decode code 988 = .ok (.aload_n 0, 1) := by decide +kernel
theorem d_Lw_law_989 : decode code 989 = .ok (.iload 4, 2) := by decide +kernel
theorem d_Lw_law_991 : decode code 991 = .ok (.iconst 3, 1) := by decide +kernel
theorem d_Lw_law_992 : decode code 992 = .ok (.iadd, 1) := by decide +kernel
theorem d_Lw_law_993 : decode code 993 = .ok (.iaload, 1) := by decide +kernel
theorem d_Lw_law_994 : decode code 994 = .ok (.invokevirtual 152, 3) := by decide +kernel
theorem d_Lw_law_997 : decode code 997 = .ok (.istore 6, 2) := by decide +kernel
theorem d_Lw_law_999 : decode code 999 = .ok (.aload_n 2, 1) := by decide +kernel
theorem d_Lw_law_1000 : decode code 1000 = .ok (.invokevirtual 113, 3) := by decide +kernel
theorem d_Lw_law_1003 : decode code 1003 = .ok (.iload 5, 2) := by decide +kernel
theorem d_Lw_law_1005 : decode code 1005 = .ok (.if_icmp .eq 5, 3) := by decide +kernel
theorem d_Lw_law_1008 : decode code 1008 = .ok (.iconst 0, 1) := by decide +kernel
theorem d_Lw_law_1009 : decode code 1009 = .ok (.ireturn, 1) := by decide +kernel
theorem d_Lw_law_1010 : decode code 1010 = .ok (.iload 5, 2) := by decide +kernel
theorem d_Lw_law_1012 : decode code 1012 = .ok (.ifCond .ne 22, 3) := by decide +kernel
theorem d_Lw_law_1015 : decode code 1015 = .ok (.aload_n 3, 1) := by decide +kernel
theorem d_Lw_law_1016 : decode code 1016 = .ok (.iconst 0, 1) := by decide +kernel
theorem d_Lw_law_1017 : decode code 1017 = .ok (.laload, 1) := by decide +kernel
theorem d_Lw_law_1018 : decode code 1018 = .ok (.iload 6, 2) := by decide +kernel
theorem d_Lw_law_1020 : decode code 1020 = .ok (.ifCond .eq 7, 3) := by decide +kernel
theorem d_Lw_law_1023 : decode code 1023 = .ok (.lconst 1, 1) := by decide +kernel
theorem d_Lw_law_1024 : decode code 1024 = .ok (.goto 4, 3) := by decide +kernel
theorem d_Lw_law_1027 : decode code 1027 = .ok (.lconst 0, 1) := by decide +kernel
theorem d_Lw_law_1028 : decode code 1028 = .ok (.lcmp, 1) := by decide +kernel
theorem d_Lw_law_1029 : decode code 1029 = .ok (.ifCond .eq 5, 3) := by decide +kernel
theorem d_Lw_law_1032 : decode code 1032 = .ok (.iconst 0, 1) := by decide +kernel
theorem d_Lw_law_1033 : decode code 1033 = .ok (.ireturn, 1) := by decide +kernel
theorem d_Lw_law_1034 : decode code 1034 = .ok (.goto 1148, 3) := by decide +kernel
theorem d_Lw_law_1037 : decode code 1037 = .ok (.aload_n 1, 1) := by decide +kernel
theorem d_Lw_law_1038 : decode code 1038 = .ok (.aload_n 0, 1) := by decide +kernel
theorem d_Lw_law_1039 : decode code 1039 = .ok (.iload 4, 2) := by decide +kernel
theorem d_Lw_law_1041 : decode code 1041 = .ok (.iconst 1, 1) := by decide +kernel
theorem d_Lw_law_1042 : decode code 1042 = .ok (.iadd, 1) := by decide +kernel
theorem d_Lw_law_1043 : decode code 1043 = .ok (.iaload, 1) := by decide +kernel
theorem d_Lw_law_1044 : decode code 1044 = .ok (.aload_n 0, 1) := by decide +kernel
theorem d_Lw_law_1045 : decode code 1045 = .ok (.iload 4, 2) := by decide +kernel
theorem d_Lw_law_1047 : decode code 1047 = .ok (.iconst 2, 1) := by decide +kernel
theorem d_Lw_law_1048 : decode code 1048 = .ok (.iadd, 1) := by decide +kernel
theorem d_Lw_law_1049 : decode code 1049 = .ok (.iaload, 1) := by decide +kernel
theorem d_Lw_law_1050 : decode code 1050 = .ok (.aload_n 3, 1) := by decide +kernel
theorem d_Lw_law_1051 : decode code 1051 = .ok (.invokestatic 153, 3) := by decide +kernel
theorem d_Lw_law_1054 : decode code 1054 = .ok (.istore 5, 2) := by decide +kernel
theorem d_Lw_law_1056 : decode code 1056 = .ok (.aload_n 2, 1) := by decide +kernel
theorem d_Lw_law_1057 : decode code 1057 = .ok (.aload_n 0, 1) := by decide +kernel
theorem d_Lw_law_1058 : decode code 1058 = .ok (.iload 4, 2) := by decide +kernel
theorem d_Lw_law_1060 : decode code 1060 = .ok (.iconst 1, 1) := by decide +kernel
theorem d_Lw_law_1061 : decode code 1061 = .ok (.iadd, 1) := by decide +kernel
theorem d_Lw_law_1062 : decode code 1062 = .ok (.iaload, 1) := by decide +kernel
theorem d_Lw_law_1063 : decode code 1063 = .ok (.aload_n 0, 1) := by decide +kernel
theorem d_Lw_law_1064 : decode code 1064 = .ok (.iload 4, 2) := by decide +kernel
theorem d_Lw_law_1066 : decode code 1066 = .ok (.iconst 2, 1) := by decide +kernel
theorem d_Lw_law_1067 : decode code 1067 = .ok (.iadd, 1) := by decide +kernel
theorem d_Lw_law_1068 : decode code 1068 = .ok (.iaload, 1) := by decide +kernel
theorem d_Lw_law_1069 : decode code 1069 = .ok (.invokevirtual 155, 3) := by decide +kernel
theorem d_Lw_law_1072 : decode code 1072 = .ok (.istore 6, 2) := by decide +kernel
theorem d_Lw_law_1074 : decode code 1074 = .ok (.aload_n 2, 1) := by decide +kernel
theorem d_Lw_law_1075 : decode code 1075 = .ok (.invokevirtual 113, 3) := by decide +kernel
theorem d_Lw_law_1078 : decode code 1078 = .ok (.iload 5, 2) := by decide +kernel
theorem d_Lw_law_1080 : decode code 1080 = .ok (.if_icmp .eq 5, 3) := by decide +kernel
theorem d_Lw_law_1083 : decode code 1083 = .ok (.iconst 0, 1) := by decide +kernel
theorem d_Lw_law_1084 : decode code 1084 = .ok (.ireturn, 1) := by decide +kernel
theorem d_Lw_law_1085 : decode code 1085 = .ok (.iload 5, 2) := by decide +kernel
theorem d_Lw_law_1087 : decode code 1087 = .ok (.ifCond .ne 22, 3) := by decide +kernel
theorem d_Lw_law_1090 : decode code 1090 = .ok (.aload_n 3, 1) := by decide +kernel
theorem d_Lw_law_1091 : decode code 1091 = .ok (.iconst 0, 1) := by decide +kernel
theorem d_Lw_law_1092 : decode code 1092 = .ok (.laload, 1) := by decide +kernel
theorem d_Lw_law_1093 : decode code 1093 = .ok (.iload 6, 2) := by decide +kernel
theorem d_Lw_law_1095 : decode code 1095 = .ok (.ifCond .eq 7, 3) := by decide +kernel
theorem d_Lw_law_1098 : decode code 1098 = .ok (.lconst 1, 1) := by decide +kernel
theorem d_Lw_law_1099 : decode code 1099 = .ok (.goto 4, 3) := by decide +kernel
theorem d_Lw_law_1102 : decode code 1102 = .ok (.lconst 0, 1) := by decide +kernel
theorem d_Lw_law_1103 : decode code 1103 = .ok (.lcmp, 1) := by decide +kernel
theorem d_Lw_law_1104 : decode code 1104 = .ok (.ifCond .eq 5, 3) := by decide +kernel
theorem d_Lw_law_1107 : decode code 1107 = .ok (.iconst 0, 1) := by decide +kernel
theorem d_Lw_law_1108 : decode code 1108 = .ok (.ireturn, 1) := by decide +kernel
theorem d_Lw_law_1109 : decode code 1109 = .ok (.goto 1073, 3) := by decide +kernel
theorem d_Lw_law_1112 : decode code 1112 = .ok (.aload_n 1, 1) := by decide +kernel
theorem d_Lw_law_1113 : decode code 1113 = .ok (.aload_n 0, 1) := by decide +kernel
theorem d_Lw_law_1114 : decode code 1114 = .ok (.iload 4, 2) := by decide +kernel
theorem d_Lw_law_1116 : decode code 1116 = .ok (.iconst 1, 1) := by decide +kernel
theorem d_Lw_law_1117 : decode code 1117 = .ok (.iadd, 1) := by decide +kernel
theorem d_Lw_law_1118 : decode code 1118 = .ok (.iaload, 1) := by decide +kernel
theorem d_Lw_law_1119 : decode code 1119 = .ok (.aload_n 0, 1) := by decide +kernel
theorem d_Lw_law_1120 : decode code 1120 = .ok (.iload 4, 2) := by decide +kernel
theorem d_Lw_law_1122 : decode code 1122 = .ok (.iconst 2, 1) := by decide +kernel
theorem d_Lw_law_1123 : decode code 1123 = .ok (.iadd, 1) := by decide +kernel
theorem d_Lw_law_1124 : decode code 1124 = .ok (.iaload, 1) := by decide +kernel
theorem d_Lw_law_1125 : decode code 1125 = .ok (.aload_n 0, 1) := by decide +kernel
theorem d_Lw_law_1126 : decode code 1126 = .ok (.iload 4, 2) := by decide +kernel
theorem d_Lw_law_1128 : decode code 1128 = .ok (.iconst 3, 1) := by decide +kernel
theorem d_Lw_law_1129 : decode code 1129 = .ok (.iadd, 1) := by decide +kernel
theorem d_Lw_law_1130 : decode code 1130 = .ok (.iaload, 1) := by decide +kernel
theorem d_Lw_law_1131 : decode code 1131 = .ok (.aload_n 0, 1) := by decide +kernel
theorem d_Lw_law_1132 : decode code 1132 = .ok (.iload 4, 2) := by decide +kernel
theorem d_Lw_law_1134 : decode code 1134 = .ok (.iconst 4, 1) := by decide +kernel
theorem d_Lw_law_1135 : decode code 1135 = .ok (.iadd, 1) := by decide +kernel
theorem d_Lw_law_1136 : decode code 1136 = .ok (.iaload, 1) := by decide +kernel
theorem d_Lw_law_1137 : decode code 1137 = .ok (.aload_n 3, 1) := by decide +kernel
theorem d_Lw_law_1138 : decode code 1138 = .ok (.invokestatic 156, 3) := by decide +kernel
theorem d_Lw_law_1141 : decode code 1141 = .ok (.istore 5, 2) := by decide +kernel
theorem d_Lw_law_1143 : decode code 1143 = .ok (.aload_n 2, 1) := by decide +kernel
theorem d_Lw_law_1144 : decode code 1144 = .ok (.aload_n 0, 1) := by decide +kernel
theorem d_Lw_law_1145 : decode code 1145 = .ok (.iload 4, 2) := by decide +kernel
theorem d_Lw_law_1147 : decode code 1147 = .ok (.iconst 1, 1) := by decide +kernel
theorem d_Lw_law_1148 : decode code 1148 = .ok (.iadd, 1) := by decide +kernel
theorem d_Lw_law_1149 : decode code 1149 = .ok (.iaload, 1) := by decide +kernel
theorem d_Lw_law_1150 : decode code 1150 = .ok (.aload_n 0, 1) := by decide +kernel
theorem d_Lw_law_1151 : decode code 1151 = .ok (.iload 4, 2) := by decide +kernel
theorem d_Lw_law_1153 : decode code 1153 = .ok (.iconst 2, 1) := by decide +kernel
theorem d_Lw_law_1154 : decode code 1154 = .ok (.iadd, 1) := by decide +kernel
