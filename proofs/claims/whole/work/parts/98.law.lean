abbrev YL_law (nm : String) : jw_Y := (RL, cL_law, 4, 4, nm)
theorem dL_law_18 : decode cL_law 18 = .ok (.iload_n 3, 1) := by decide +kernel
theorem dL_law_19 : decode cL_law 19 = .ok (.aload_n 0, 1) := by decide +kernel
theorem dL_law_20 : decode cL_law 20 = .ok (.arraylength, 1) := by decide +kernel
theorem dL_law_21 : decode cL_law 21 = .ok (.bipush 6, 2) := by decide +kernel
theorem dL_law_23 : decode cL_law 23 = .ok (.isub, 1) := by decide +kernel
theorem dL_law_24 : decode cL_law 24 = .ok (.if_icmp .gt 1457, 3) := by decide +kernel
theorem dL_law_27 : decode cL_law 27 = .ok (.aload_n 0, 1) := by decide +kernel
theorem dL_law_28 : decode cL_law 28 = .ok (.iload_n 3, 1) := by decide +kernel
theorem dL_law_29 : decode cL_law 29 = .ok (.iaload, 1) := by decide +kernel
theorem dL_law_30 : decode cL_law 30 = .ok (.bipush 63, 2) := by decide +kernel
theorem dL_law_32 : decode cL_law 32 = .ok (.iand, 1) := by decide +kernel
theorem dL_law_33 : decode cL_law 33 = .ok (.tableswitch 1442 0 39 #[175, 219, 263, 327, 351, 415, 429, 442, 486, 520, 554, 588, 632, 686, 720, 744, 758, 792, 826, 850, 874, 888, 902, 926, 960, 1014, 1038, 1072, 1106, 1150, 1194, 1228, 1242, 1266, 1290, 1314, 1348, 1382, 1405, 1429], 175) := by decide +kernel
theorem dL_law_208 : decode cL_law 208 = .ok (.aload_n 1, 1) := by decide +kernel
theorem dL_law_209 : decode cL_law 209 = .ok (.aload_n 0, 1) := by decide +kernel
theorem dL_law_210 : decode cL_law 210 = .ok (.iload_n 3, 1) := by decide +kernel
theorem dL_law_211 : decode cL_law 211 = .ok (.iconst 1, 1) := by decide +kernel
theorem dL_law_212 : decode cL_law 212 = .ok (.iadd, 1) := by decide +kernel
theorem dL_law_213 : decode cL_law 213 = .ok (.iaload, 1) := by decide +kernel
theorem dL_law_214 : decode cL_law 214 = .ok (.aload_n 0, 1) := by decide +kernel
theorem dL_law_215 : decode cL_law 215 = .ok (.iload_n 3, 1) := by decide +kernel
theorem dL_law_216 : decode cL_law 216 = .ok (.iconst 2, 1) := by decide +kernel
theorem dL_law_217 : decode cL_law 217 = .ok (.iadd, 1) := by decide +kernel
theorem dL_law_218 : decode cL_law 218 = .ok (.iaload, 1) := by decide +kernel
theorem dL_law_219 : decode cL_law 219 = .ok (.aload_n 0, 1) := by decide +kernel
theorem dL_law_220 : decode cL_law 220 = .ok (.iload_n 3, 1) := by decide +kernel
theorem dL_law_221 : decode cL_law 221 = .ok (.iconst 3, 1) := by decide +kernel
theorem dL_law_222 : decode cL_law 222 = .ok (.iadd, 1) := by decide +kernel
theorem dL_law_223 : decode cL_law 223 = .ok (.iaload, 1) := by decide +kernel
theorem dL_law_224 : decode cL_law 224 = .ok (.invokevirtual 13, 3) := by decide +kernel
theorem dL_law_227 : decode cL_law 227 = .ok (.aload_n 2, 1) := by decide +kernel
theorem dL_law_228 : decode cL_law 228 = .ok (.aload_n 0, 1) := by decide +kernel
theorem dL_law_229 : decode cL_law 229 = .ok (.iload_n 3, 1) := by decide +kernel
theorem dL_law_230 : decode cL_law 230 = .ok (.iconst 1, 1) := by decide +kernel
theorem dL_law_231 : decode cL_law 231 = .ok (.iadd, 1) := by decide +kernel
theorem dL_law_232 : decode cL_law 232 = .ok (.iaload, 1) := by decide +kernel
theorem dL_law_233 : decode cL_law 233 = .ok (.aload_n 0, 1) := by decide +kernel
theorem dL_law_234 : decode cL_law 234 = .ok (.iload_n 3, 1) := by decide +kernel
theorem dL_law_235 : decode cL_law 235 = .ok (.iconst 2, 1) := by decide +kernel
theorem dL_law_236 : decode cL_law 236 = .ok (.iadd, 1) := by decide +kernel
theorem dL_law_237 : decode cL_law 237 = .ok (.iaload, 1) := by decide +kernel
theorem dL_law_238 : decode cL_law 238 = .ok (.aload_n 0, 1) := by decide +kernel
theorem dL_law_239 : decode cL_law 239 = .ok (.iload_n 3, 1) := by decide +kernel
theorem dL_law_240 : decode cL_law 240 = .ok (.iconst 3, 1) := by decide +kernel
theorem dL_law_241 : decode cL_law 241 = .ok (.iadd, 1) := by decide +kernel
theorem dL_law_242 : decode cL_law 242 = .ok (.iaload, 1) := by decide +kernel
theorem dL_law_243 : decode cL_law 243 = .ok (.invokevirtual 17, 3) := by decide +kernel
theorem dL_law_246 : decode cL_law 246 = .ok (.lcmp, 1) := by decide +kernel
theorem dL_law_247 : decode cL_law 247 = .ok (.ifCond .eq 1228, 3) := by decide +kernel
theorem dL_law_250 : decode cL_law 250 = .ok (.iconst 0, 1) := by decide +kernel
theorem dL_law_251 : decode cL_law 251 = .ok (.ireturn, 1) := by decide +kernel
theorem dL_law_252 : decode cL_law 252 = .ok (.aload_n 1, 1) := by decide +kernel
theorem dL_law_253 : decode cL_law 253 = .ok (.aload_n 0, 1) := by decide +kernel
theorem dL_law_254 : decode cL_law 254 = .ok (.iload_n 3, 1) := by decide +kernel
theorem dL_law_255 : decode cL_law 255 = .ok (.iconst 1, 1) := by decide +kernel
theorem dL_law_256 : decode cL_law 256 = .ok (.iadd, 1) := by decide +kernel
theorem dL_law_257 : decode cL_law 257 = .ok (.iaload, 1) := by decide +kernel
theorem dL_law_258 : decode cL_law 258 = .ok (.aload_n 0, 1) := by decide +kernel
theorem dL_law_259 : decode cL_law 259 = .ok (.iload_n 3, 1) := by decide +kernel
theorem dL_law_260 : decode cL_law 260 = .ok (.iconst 2, 1) := by decide +kernel
theorem dL_law_261 : decode cL_law 261 = .ok (.iadd, 1) := by decide +kernel
theorem dL_law_262 : decode cL_law 262 = .ok (.iaload, 1) := by decide +kernel
theorem dL_law_263 : decode cL_law 263 = .ok (.aload_n 0, 1) := by decide +kernel
theorem dL_law_264 : decode cL_law 264 = .ok (.iload_n 3, 1) := by decide +kernel
theorem dL_law_265 : decode cL_law 265 = .ok (.iconst 3, 1) := by decide +kernel
theorem dL_law_266 : decode cL_law 266 = .ok (.iadd, 1) := by decide +kernel
theorem dL_law_267 : decode cL_law 267 = .ok (.iaload, 1) := by decide +kernel
theorem dL_law_268 : decode cL_law 268 = .ok (.invokevirtual 18, 3) := by decide +kernel
theorem dL_law_271 : decode cL_law 271 = .ok (.aload_n 2, 1) := by decide +kernel
theorem dL_law_272 : decode cL_law 272 = .ok (.aload_n 0, 1) := by decide +kernel
theorem dL_law_273 : decode cL_law 273 = .ok (.iload_n 3, 1) := by decide +kernel
theorem dL_law_274 : decode cL_law 274 = .ok (.iconst 1, 1) := by decide +kernel
theorem dL_law_275 : decode cL_law 275 = .ok (.iadd, 1) := by decide +kernel
theorem dL_law_276 : decode cL_law 276 = .ok (.iaload, 1) := by decide +kernel
theorem dL_law_277 : decode cL_law 277 = .ok (.aload_n 0, 1) := by decide +kernel
theorem dL_law_278 : decode cL_law 278 = .ok (.iload_n 3, 1) := by decide +kernel
theorem dL_law_279 : decode cL_law 279 = .ok (.iconst 2, 1) := by decide +kernel
theorem dL_law_280 : decode cL_law 280 = .ok (.iadd, 1) := by decide +kernel
theorem dL_law_281 : decode cL_law 281 = .ok (.iaload, 1) := by decide +kernel
theorem dL_law_282 : decode cL_law 282 = .ok (.aload_n 0, 1) := by decide +kernel
theorem dL_law_283 : decode cL_law 283 = .ok (.iload_n 3, 1) := by decide +kernel
theorem dL_law_284 : decode cL_law 284 = .ok (.iconst 3, 1) := by decide +kernel
theorem dL_law_285 : decode cL_law 285 = .ok (.iadd, 1) := by decide +kernel
theorem dL_law_286 : decode cL_law 286 = .ok (.iaload, 1) := by decide +kernel
theorem dL_law_287 : decode cL_law 287 = .ok (.invokevirtual 21, 3) := by decide +kernel
theorem dL_law_290 : decode cL_law 290 = .ok (.lcmp, 1) := by decide +kernel
theorem dL_law_291 : decode cL_law 291 = .ok (.ifCond .eq 1184, 3) := by decide +kernel
theorem dL_law_294 : decode cL_law 294 = .ok (.iconst 0, 1) := by decide +kernel
theorem dL_law_295 : decode cL_law 295 = .ok (.ireturn, 1) := by decide +kernel
theorem dL_law_296 : decode cL_law 296 = .ok (.aload_n 1, 1) := by decide +kernel
theorem dL_law_297 : decode cL_law 297 = .ok (.aload_n 0, 1) := by decide +kernel
theorem dL_law_298 : decode cL_law 298 = .ok (.iload_n 3, 1) := by decide +kernel
theorem dL_law_299 : decode cL_law 299 = .ok (.iconst 1, 1) := by decide +kernel
theorem dL_law_300 : decode cL_law 300 = .ok (.iadd, 1) := by decide +kernel
theorem dL_law_301 : decode cL_law 301 = .ok (.iaload, 1) := by decide +kernel
theorem dL_law_302 : decode cL_law 302 = .ok (.aload_n 0, 1) := by decide +kernel
theorem dL_law_303 : decode cL_law 303 = .ok (.iload_n 3, 1) := by decide +kernel
theorem dL_law_304 : decode cL_law 304 = .ok (.iconst 2, 1) := by decide +kernel
theorem dL_law_305 : decode cL_law 305 = .ok (.iadd, 1) := by decide +kernel
theorem dL_law_306 : decode cL_law 306 = .ok (.iaload, 1) := by decide +kernel
theorem dL_law_307 : decode cL_law 307 = .ok (.aload_n 0, 1) := by decide +kernel
theorem dL_law_308 : decode cL_law 308 = .ok (.iload_n 3, 1) := by decide +kernel
theorem dL_law_309 : decode cL_law 309 = .ok (.iconst 3, 1) := by decide +kernel
theorem dL_law_310 : decode cL_law 310 = .ok (.iadd, 1) := by decide +kernel
theorem dL_law_311 : decode cL_law 311 = .ok (.iaload, 1) := by decide +kernel
theorem dL_law_312 : decode cL_law 312 = .ok (.aload_n 0, 1) := by decide +kernel
theorem dL_law_313 : decode cL_law 313 = .ok (.iload_n 3, 1) := by decide +kernel
theorem dL_law_314 : decode cL_law 314 = .ok (.iconst 4, 1) := by decide +kernel
theorem dL_law_315 : decode cL_law 315 = .ok (.iadd, 1) := by decide +kernel
theorem dL_law_316 : decode cL_law 316 = .ok (.iaload, 1) := by decide +kernel
theorem dL_law_317 : decode cL_law 317 = .ok (.aload_n 0, 1) := by decide +kernel
theorem dL_law_318 : decode cL_law 318 = .ok (.iload_n 3, 1) := by decide +kernel
theorem dL_law_319 : decode cL_law 319 = .ok (.iconst 5, 1) := by decide +kernel
theorem dL_law_320 : decode cL_law 320 = .ok (.iadd, 1) := by decide +kernel
theorem dL_law_321 : decode cL_law 321 = .ok (.iaload, 1) := by decide +kernel
theorem dL_law_322 : decode cL_law 322 = .ok (.invokevirtual 22, 3) := by decide +kernel
theorem dL_law_325 : decode cL_law 325 = .ok (.aload_n 2, 1) := by decide +kernel
theorem dL_law_326 : decode cL_law 326 = .ok (.aload_n 0, 1) := by decide +kernel
theorem dL_law_327 : decode cL_law 327 = .ok (.iload_n 3, 1) := by decide +kernel
theorem dL_law_328 : decode cL_law 328 = .ok (.iconst 1, 1) := by decide +kernel
theorem dL_law_329 : decode cL_law 329 = .ok (.iadd, 1) := by decide +kernel
theorem dL_law_330 : decode cL_law 330 = .ok (.iaload, 1) := by decide +kernel
theorem dL_law_331 : decode cL_law 331 = .ok (.aload_n 0, 1) := by decide +kernel
theorem dL_law_332 : decode cL_law 332 = .ok (.iload_n 3, 1) := by decide +kernel
theorem dL_law_333 : decode cL_law 333 = .ok (.iconst 2, 1) := by decide +kernel
theorem dL_law_334 : decode cL_law 334 = .ok (.iadd, 1) := by decide +kernel
theorem dL_law_335 : decode cL_law 335 = .ok (.iaload, 1) := by decide +kernel
theorem dL_law_336 : decode cL_law 336 = .ok (.aload_n 0, 1) := by decide +kernel
theorem dL_law_337 : decode cL_law 337 = .ok (.iload_n 3, 1) := by decide +kernel
theorem dL_law_338 : decode cL_law 338 = .ok (.iconst 3, 1) := by decide +kernel
theorem dL_law_339 : decode cL_law 339 = .ok (.iadd, 1) := by decide +kernel
theorem dL_law_340 : decode cL_law 340 = .ok (.iaload, 1) := by decide +kernel
theorem dL_law_341 : decode cL_law 341 = .ok (.aload_n 0, 1) := by decide +kernel
theorem dL_law_342 : decode cL_law 342 = .ok (.iload_n 3, 1) := by decide +kernel
theorem dL_law_343 : decode cL_law 343 = .ok (.iconst 4, 1) := by decide +kernel
theorem dL_law_344 : decode cL_law 344 = .ok (.iadd, 1) := by decide +kernel
theorem dL_law_345 : decode cL_law 345 = .ok (.iaload, 1) := by decide +kernel
theorem dL_law_346 : decode cL_law 346 = .ok (.aload_n 0, 1) := by decide +kernel
theorem dL_law_347 : decode cL_law 347 = .ok (.iload_n 3, 1) := by decide +kernel
theorem dL_law_348 : decode cL_law 348 = .ok (.iconst 5, 1) := by decide +kernel
theorem dL_law_349 : decode cL_law 349 = .ok (.iadd, 1) := by decide +kernel
theorem dL_law_350 : decode cL_law 350 = .ok (.iaload, 1) := by decide +kernel
theorem dL_law_351 : decode cL_law 351 = .ok (.invokevirtual 26, 3) := by decide +kernel
theorem dL_law_354 : decode cL_law 354 = .ok (.lcmp, 1) := by decide +kernel
theorem dL_law_355 : decode cL_law 355 = .ok (.ifCond .eq 1120, 3) := by decide +kernel
theorem dL_law_358 : decode cL_law 358 = .ok (.iconst 0, 1) := by decide +kernel
theorem dL_law_359 : decode cL_law 359 = .ok (.ireturn, 1) := by decide +kernel
theorem dL_law_360 : decode cL_law 360 = .ok (.aload_n 1, 1) := by decide +kernel
theorem dL_law_361 : decode cL_law 361 = .ok (.aload_n 0, 1) := by decide +kernel
theorem dL_law_362 : decode cL_law 362 = .ok (.iload_n 3, 1) := by decide +kernel
theorem dL_law_363 : decode cL_law 363 = .ok (.iconst 1, 1) := by decide +kernel
theorem dL_law_364 : decode cL_law 364 = .ok (.iadd, 1) := by decide +kernel
theorem dL_law_365 : decode cL_law 365 = .ok (.iaload, 1) := by decide +kernel
theorem dL_law_366 : decode cL_law 366 = .ok (.invokevirtual 27, 3) := by decide +kernel
theorem dL_law_369 : decode cL_law 369 = .ok (.aload_n 2, 1) := by decide +kernel
theorem dL_law_370 : decode cL_law 370 = .ok (.aload_n 0, 1) := by decide +kernel
theorem dL_law_371 : decode cL_law 371 = .ok (.iload_n 3, 1) := by decide +kernel
theorem dL_law_372 : decode cL_law 372 = .ok (.iconst 1, 1) := by decide +kernel
theorem dL_law_373 : decode cL_law 373 = .ok (.iadd, 1) := by decide +kernel
theorem dL_law_374 : decode cL_law 374 = .ok (.iaload, 1) := by decide +kernel
theorem dL_law_375 : decode cL_law 375 = .ok (.invokevirtual 31, 3) := by decide +kernel
theorem dL_law_378 : decode cL_law 378 = .ok (.lcmp, 1) := by decide +kernel
theorem dL_law_379 : decode cL_law 379 = .ok (.ifCond .eq 1096, 3) := by decide +kernel
theorem dL_law_382 : decode cL_law 382 = .ok (.iconst 0, 1) := by decide +kernel
theorem dL_law_383 : decode cL_law 383 = .ok (.ireturn, 1) := by decide +kernel
theorem dL_law_384 : decode cL_law 384 = .ok (.aload_n 1, 1) := by decide +kernel
theorem dL_law_385 : decode cL_law 385 = .ok (.aload_n 0, 1) := by decide +kernel
theorem dL_law_386 : decode cL_law 386 = .ok (.iload_n 3, 1) := by decide +kernel
theorem dL_law_387 : decode cL_law 387 = .ok (.iconst 1, 1) := by decide +kernel
theorem dL_law_388 : decode cL_law 388 = .ok (.iadd, 1) := by decide +kernel
theorem dL_law_389 : decode cL_law 389 = .ok (.iaload, 1) := by decide +kernel
theorem dL_law_390 : decode cL_law 390 = .ok (.i2l, 1) := by decide +kernel
theorem dL_law_391 : decode cL_law 391 = .ok (.bipush 32, 2) := by decide +kernel
theorem dL_law_393 : decode cL_law 393 = .ok (.lshl, 1) := by decide +kernel
theorem dL_law_394 : decode cL_law 394 = .ok (.aload_n 0, 1) := by decide +kernel
theorem dL_law_395 : decode cL_law 395 = .ok (.iload_n 3, 1) := by decide +kernel
theorem dL_law_396 : decode cL_law 396 = .ok (.iconst 2, 1) := by decide +kernel
theorem dL_law_397 : decode cL_law 397 = .ok (.iadd, 1) := by decide +kernel
theorem dL_law_398 : decode cL_law 398 = .ok (.iaload, 1) := by decide +kernel
theorem dL_law_399 : decode cL_law 399 = .ok (.i2l, 1) := by decide +kernel
theorem dL_law_400 : decode cL_law 400 = .ok (.ldc2_w 32, 3) := by decide +kernel
theorem dL_law_403 : decode cL_law 403 = .ok (.land, 1) := by decide +kernel
theorem dL_law_404 : decode cL_law 404 = .ok (.lor, 1) := by decide +kernel
theorem dL_law_405 : decode cL_law 405 = .ok (.aload_n 0, 1) := by decide +kernel
theorem dL_law_406 : decode cL_law 406 = .ok (.iload_n 3, 1) := by decide +kernel
theorem dL_law_407 : decode cL_law 407 = .ok (.iconst 3, 1) := by decide +kernel
theorem dL_law_408 : decode cL_law 408 = .ok (.iadd, 1) := by decide +kernel
theorem dL_law_409 : decode cL_law 409 = .ok (.iaload, 1) := by decide +kernel
theorem dL_law_410 : decode cL_law 410 = .ok (.invokevirtual 34, 3) := by decide +kernel
theorem dL_law_413 : decode cL_law 413 = .ok (.aload_n 2, 1) := by decide +kernel
theorem dL_law_414 : decode cL_law 414 = .ok (.aload_n 0, 1) := by decide +kernel
theorem dL_law_415 : decode cL_law 415 = .ok (.iload_n 3, 1) := by decide +kernel
theorem dL_law_416 : decode cL_law 416 = .ok (.iconst 1, 1) := by decide +kernel
theorem dL_law_417 : decode cL_law 417 = .ok (.iadd, 1) := by decide +kernel
theorem dL_law_418 : decode cL_law 418 = .ok (.iaload, 1) := by decide +kernel
theorem dL_law_419 : decode cL_law 419 = .ok (.i2l, 1) := by decide +kernel
theorem dL_law_420 : decode cL_law 420 = .ok (.bipush 32, 2) := by decide +kernel
theorem dL_law_422 : decode cL_law 422 = .ok (.lshl, 1) := by decide +kernel
theorem dL_law_423 : decode cL_law 423 = .ok (.aload_n 0, 1) := by decide +kernel
theorem dL_law_424 : decode cL_law 424 = .ok (.iload_n 3, 1) := by decide +kernel
theorem dL_law_425 : decode cL_law 425 = .ok (.iconst 2, 1) := by decide +kernel
theorem dL_law_426 : decode cL_law 426 = .ok (.iadd, 1) := by decide +kernel
theorem dL_law_427 : decode cL_law 427 = .ok (.iaload, 1) := by decide +kernel
theorem dL_law_428 : decode cL_law 428 = .ok (.i2l, 1) := by decide +kernel
theorem dL_law_429 : decode cL_law 429 = .ok (.ldc2_w 32, 3) := by decide +kernel
theorem dL_law_432 : decode cL_law 432 = .ok (.land, 1) := by decide +kernel
theorem dL_law_433 : decode cL_law 433 = .ok (.lor, 1) := by decide +kernel
theorem dL_law_434 : decode cL_law 434 = .ok (.aload_n 0, 1) := by decide +kernel
theorem dL_law_435 : decode cL_law 435 = .ok (.iload_n 3, 1) := by decide +kernel
theorem dL_law_436 : decode cL_law 436 = .ok (.iconst 3, 1) := by decide +kernel
theorem dL_law_437 : decode cL_law 437 = .ok (.iadd, 1) := by decide +kernel
theorem dL_law_438 : decode cL_law 438 = .ok (.iaload, 1) := by decide +kernel
theorem dL_law_439 : decode cL_law 439 = .ok (.invokevirtual 38, 3) := by decide +kernel
theorem dL_law_442 : decode cL_law 442 = .ok (.lcmp, 1) := by decide +kernel
theorem dL_law_443 : decode cL_law 443 = .ok (.ifCond .eq 1032, 3) := by decide +kernel
theorem dL_law_446 : decode cL_law 446 = .ok (.iconst 0, 1) := by decide +kernel
theorem dL_law_447 : decode cL_law 447 = .ok (.ireturn, 1) := by decide +kernel
theorem dL_law_448 : decode cL_law 448 = .ok (.aload_n 1, 1) := by decide +kernel
theorem dL_law_449 : decode cL_law 449 = .ok (.invokevirtual 39, 3) := by decide +kernel
theorem dL_law_452 : decode cL_law 452 = .ok (.aload_n 2, 1) := by decide +kernel
theorem dL_law_453 : decode cL_law 453 = .ok (.invokevirtual 43, 3) := by decide +kernel
theorem dL_law_456 : decode cL_law 456 = .ok (.lcmp, 1) := by decide +kernel
theorem dL_law_457 : decode cL_law 457 = .ok (.ifCond .eq 1018, 3) := by decide +kernel
theorem dL_law_460 : decode cL_law 460 = .ok (.iconst 0, 1) := by decide +kernel
theorem dL_law_461 : decode cL_law 461 = .ok (.ireturn, 1) := by decide +kernel
theorem dL_law_462 : decode cL_law 462 = .ok (.aload_n 1, 1) := by decide +kernel
theorem dL_law_463 : decode cL_law 463 = .ok (.invokevirtual 44, 3) := by decide +kernel
theorem dL_law_466 : decode cL_law 466 = .ok (.aload_n 2, 1) := by decide +kernel
theorem dL_law_467 : decode cL_law 467 = .ok (.invokevirtual 48, 3) := by decide +kernel
theorem dL_law_470 : decode cL_law 470 = .ok (.if_icmp .eq 1005, 3) := by decide +kernel
theorem dL_law_473 : decode cL_law 473 = .ok (.iconst 0, 1) := by decide +kernel
theorem dL_law_474 : decode cL_law 474 = .ok (.ireturn, 1) := by decide +kernel
theorem dL_law_475 : decode cL_law 475 = .ok (.aload_n 1, 1) := by decide +kernel
theorem dL_law_476 : decode cL_law 476 = .ok (.aload_n 0, 1) := by decide +kernel
theorem dL_law_477 : decode cL_law 477 = .ok (.iload_n 3, 1) := by decide +kernel
theorem dL_law_478 : decode cL_law 478 = .ok (.iconst 1, 1) := by decide +kernel
theorem dL_law_479 : decode cL_law 479 = .ok (.iadd, 1) := by decide +kernel
theorem dL_law_480 : decode cL_law 480 = .ok (.iaload, 1) := by decide +kernel
theorem dL_law_481 : decode cL_law 481 = .ok (.aload_n 0, 1) := by decide +kernel
theorem dL_law_482 : decode cL_law 482 = .ok (.iload_n 3, 1) := by decide +kernel
theorem dL_law_483 : decode cL_law 483 = .ok (.iconst 2, 1) := by decide +kernel
theorem dL_law_484 : decode cL_law 484 = .ok (.iadd, 1) := by decide +kernel
theorem dL_law_485 : decode cL_law 485 = .ok (.iaload, 1) := by decide +kernel
theorem dL_law_486 : decode cL_law 486 = .ok (.aload_n 0, 1) := by decide +kernel
theorem dL_law_487 : decode cL_law 487 = .ok (.iload_n 3, 1) := by decide +kernel
theorem dL_law_488 : decode cL_law 488 = .ok (.iconst 3, 1) := by decide +kernel
theorem dL_law_489 : decode cL_law 489 = .ok (.iadd, 1) := by decide +kernel
theorem dL_law_490 : decode cL_law 490 = .ok (.iaload, 1) := by decide +kernel
theorem dL_law_491 : decode cL_law 491 = .ok (.invokevirtual 49, 3) := by decide +kernel
theorem dL_law_494 : decode cL_law 494 = .ok (.aload_n 2, 1) := by decide +kernel
theorem dL_law_495 : decode cL_law 495 = .ok (.aload_n 0, 1) := by decide +kernel
theorem dL_law_496 : decode cL_law 496 = .ok (.iload_n 3, 1) := by decide +kernel
theorem dL_law_497 : decode cL_law 497 = .ok (.iconst 1, 1) := by decide +kernel
theorem dL_law_498 : decode cL_law 498 = .ok (.iadd, 1) := by decide +kernel
theorem dL_law_499 : decode cL_law 499 = .ok (.iaload, 1) := by decide +kernel
theorem dL_law_500 : decode cL_law 500 = .ok (.aload_n 0, 1) := by decide +kernel
theorem dL_law_501 : decode cL_law 501 = .ok (.iload_n 3, 1) := by decide +kernel
theorem dL_law_502 : decode cL_law 502 = .ok (.iconst 2, 1) := by decide +kernel
theorem dL_law_503 : decode cL_law 503 = .ok (.iadd, 1) := by decide +kernel
theorem dL_law_504 : decode cL_law 504 = .ok (.iaload, 1) := by decide +kernel
theorem dL_law_505 : decode cL_law 505 = .ok (.aload_n 0, 1) := by decide +kernel
theorem dL_law_506 : decode cL_law 506 = .ok (.iload_n 3, 1) := by decide +kernel
theorem dL_law_507 : decode cL_law 507 = .ok (.iconst 3, 1) := by decide +kernel
theorem dL_law_508 : decode cL_law 508 = .ok (.iadd, 1) := by decide +kernel
theorem dL_law_509 : decode cL_law 509 = .ok (.iaload, 1) := by decide +kernel
theorem dL_law_510 : decode cL_law 510 = .ok (.invokevirtual 52, 3) := by decide +kernel
theorem dL_law_513 : decode cL_law 513 = .ok (.lcmp, 1) := by decide +kernel
theorem dL_law_514 : decode cL_law 514 = .ok (.ifCond .eq 961, 3) := by decide +kernel
theorem dL_law_517 : decode cL_law 517 = .ok (.iconst 0, 1) := by decide +kernel
theorem dL_law_518 : decode cL_law 518 = .ok (.ireturn, 1) := by decide +kernel
theorem dL_law_519 : decode cL_law 519 = .ok (.aload_n 1, 1) := by decide +kernel
theorem dL_law_520 : decode cL_law 520 = .ok (.aload_n 0, 1) := by decide +kernel
theorem dL_law_521 : decode cL_law 521 = .ok (.iload_n 3, 1) := by decide +kernel
theorem dL_law_522 : decode cL_law 522 = .ok (.iconst 1, 1) := by decide +kernel
theorem dL_law_523 : decode cL_law 523 = .ok (.iadd, 1) := by decide +kernel
theorem dL_law_524 : decode cL_law 524 = .ok (.iaload, 1) := by decide +kernel
theorem dL_law_525 : decode cL_law 525 = .ok (.aload_n 0, 1) := by decide +kernel
theorem dL_law_526 : decode cL_law 526 = .ok (.iload_n 3, 1) := by decide +kernel
theorem dL_law_527 : decode cL_law 527 = .ok (.iconst 2, 1) := by decide +kernel
theorem dL_law_528 : decode cL_law 528 = .ok (.iadd, 1) := by decide +kernel
theorem dL_law_529 : decode cL_law 529 = .ok (.iaload, 1) := by decide +kernel
theorem dL_law_530 : decode cL_law 530 = .ok (.invokevirtual 53, 3) := by decide +kernel
theorem dL_law_533 : decode cL_law 533 = .ok (.aload_n 2, 1) := by decide +kernel
theorem dL_law_534 : decode cL_law 534 = .ok (.aload_n 0, 1) := by decide +kernel
theorem dL_law_535 : decode cL_law 535 = .ok (.iload_n 3, 1) := by decide +kernel
theorem dL_law_536 : decode cL_law 536 = .ok (.iconst 1, 1) := by decide +kernel
theorem dL_law_537 : decode cL_law 537 = .ok (.iadd, 1) := by decide +kernel
theorem dL_law_538 : decode cL_law 538 = .ok (.iaload, 1) := by decide +kernel
theorem dL_law_539 : decode cL_law 539 = .ok (.aload_n 0, 1) := by decide +kernel
theorem dL_law_540 : decode cL_law 540 = .ok (.iload_n 3, 1) := by decide +kernel
theorem dL_law_541 : decode cL_law 541 = .ok (.iconst 2, 1) := by decide +kernel
theorem dL_law_542 : decode cL_law 542 = .ok (.iadd, 1) := by decide +kernel
theorem dL_law_543 : decode cL_law 543 = .ok (.iaload, 1) := by decide +kernel
theorem dL_law_544 : decode cL_law 544 = .ok (.invokevirtual 57, 3) := by decide +kernel
theorem dL_law_547 : decode cL_law 547 = .ok (.lcmp, 1) := by decide +kernel
theorem dL_law_548 : decode cL_law 548 = .ok (.ifCond .eq 927, 3) := by decide +kernel
theorem dL_law_551 : decode cL_law 551 = .ok (.iconst 0, 1) := by decide +kernel
theorem dL_law_552 : decode cL_law 552 = .ok (.ireturn, 1) := by decide +kernel
theorem dL_law_553 : decode cL_law 553 = .ok (.aload_n 1, 1) := by decide +kernel
theorem dL_law_554 : decode cL_law 554 = .ok (.aload_n 0, 1) := by decide +kernel
theorem dL_law_555 : decode cL_law 555 = .ok (.iload_n 3, 1) := by decide +kernel
theorem dL_law_556 : decode cL_law 556 = .ok (.iconst 1, 1) := by decide +kernel
theorem dL_law_557 : decode cL_law 557 = .ok (.iadd, 1) := by decide +kernel
theorem dL_law_558 : decode cL_law 558 = .ok (.iaload, 1) := by decide +kernel
theorem dL_law_559 : decode cL_law 559 = .ok (.aload_n 0, 1) := by decide +kernel
theorem dL_law_560 : decode cL_law 560 = .ok (.iload_n 3, 1) := by decide +kernel
theorem dL_law_561 : decode cL_law 561 = .ok (.iconst 2, 1) := by decide +kernel
theorem dL_law_562 : decode cL_law 562 = .ok (.iadd, 1) := by decide +kernel
theorem dL_law_563 : decode cL_law 563 = .ok (.iaload, 1) := by decide +kernel
theorem dL_law_564 : decode cL_law 564 = .ok (.invokevirtual 58, 3) := by decide +kernel
theorem dL_law_567 : decode cL_law 567 = .ok (.aload_n 2, 1) := by decide +kernel
theorem dL_law_568 : decode cL_law 568 = .ok (.aload_n 0, 1) := by decide +kernel
theorem dL_law_569 : decode cL_law 569 = .ok (.iload_n 3, 1) := by decide +kernel
theorem dL_law_570 : decode cL_law 570 = .ok (.iconst 1, 1) := by decide +kernel
theorem dL_law_571 : decode cL_law 571 = .ok (.iadd, 1) := by decide +kernel
theorem dL_law_572 : decode cL_law 572 = .ok (.iaload, 1) := by decide +kernel
theorem dL_law_573 : decode cL_law 573 = .ok (.aload_n 0, 1) := by decide +kernel
theorem dL_law_574 : decode cL_law 574 = .ok (.iload_n 3, 1) := by decide +kernel
theorem dL_law_575 : decode cL_law 575 = .ok (.iconst 2, 1) := by decide +kernel
theorem dL_law_576 : decode cL_law 576 = .ok (.iadd, 1) := by decide +kernel
theorem dL_law_577 : decode cL_law 577 = .ok (.iaload, 1) := by decide +kernel
theorem dL_law_578 : decode cL_law 578 = .ok (.invokevirtual 61, 3) := by decide +kernel
theorem dL_law_581 : decode cL_law 581 = .ok (.lcmp, 1) := by decide +kernel
theorem dL_law_582 : decode cL_law 582 = .ok (.ifCond .eq 893, 3) := by decide +kernel
theorem dL_law_585 : decode cL_law 585 = .ok (.iconst 0, 1) := by decide +kernel
theorem dL_law_586 : decode cL_law 586 = .ok (.ireturn, 1) := by decide +kernel
theorem dL_law_587 : decode cL_law 587 = .ok (.aload_n 1, 1) := by decide +kernel
theorem dL_law_588 : decode cL_law 588 = .ok (.aload_n 0, 1) := by decide +kernel
theorem dL_law_589 : decode cL_law 589 = .ok (.iload_n 3, 1) := by decide +kernel
theorem dL_law_590 : decode cL_law 590 = .ok (.iconst 1, 1) := by decide +kernel
theorem dL_law_591 : decode cL_law 591 = .ok (.iadd, 1) := by decide +kernel
theorem dL_law_592 : decode cL_law 592 = .ok (.iaload, 1) := by decide +kernel
theorem dL_law_593 : decode cL_law 593 = .ok (.aload_n 0, 1) := by decide +kernel
theorem dL_law_594 : decode cL_law 594 = .ok (.iload_n 3, 1) := by decide +kernel
theorem dL_law_595 : decode cL_law 595 = .ok (.iconst 2, 1) := by decide +kernel
theorem dL_law_596 : decode cL_law 596 = .ok (.iadd, 1) := by decide +kernel
theorem dL_law_597 : decode cL_law 597 = .ok (.iaload, 1) := by decide +kernel
theorem dL_law_598 : decode cL_law 598 = .ok (.invokevirtual 62, 3) := by decide +kernel
theorem dL_law_601 : decode cL_law 601 = .ok (.aload_n 2, 1) := by decide +kernel
theorem dL_law_602 : decode cL_law 602 = .ok (.aload_n 0, 1) := by decide +kernel
theorem dL_law_603 : decode cL_law 603 = .ok (.iload_n 3, 1) := by decide +kernel
theorem dL_law_604 : decode cL_law 604 = .ok (.iconst 1, 1) := by decide +kernel
theorem dL_law_605 : decode cL_law 605 = .ok (.iadd, 1) := by decide +kernel
theorem dL_law_606 : decode cL_law 606 = .ok (.iaload, 1) := by decide +kernel
theorem dL_law_607 : decode cL_law 607 = .ok (.aload_n 0, 1) := by decide +kernel
theorem dL_law_608 : decode cL_law 608 = .ok (.iload_n 3, 1) := by decide +kernel
theorem dL_law_609 : decode cL_law 609 = .ok (.iconst 2, 1) := by decide +kernel
theorem dL_law_610 : decode cL_law 610 = .ok (.iadd, 1) := by decide +kernel
theorem dL_law_611 : decode cL_law 611 = .ok (.iaload, 1) := by decide +kernel
theorem dL_law_612 : decode cL_law 612 = .ok (.invokevirtual 65, 3) := by decide +kernel
theorem dL_law_615 : decode cL_law 615 = .ok (.lcmp, 1) := by decide +kernel
theorem dL_law_616 : decode cL_law 616 = .ok (.ifCond .eq 859, 3) := by decide +kernel
theorem dL_law_619 : decode cL_law 619 = .ok (.iconst 0, 1) := by decide +kernel
theorem dL_law_620 : decode cL_law 620 = .ok (.ireturn, 1) := by decide +kernel
theorem dL_law_621 : decode cL_law 621 = .ok (.aload_n 1, 1) := by decide +kernel
theorem dL_law_622 : decode cL_law 622 = .ok (.aload_n 0, 1) := by decide +kernel
theorem dL_law_623 : decode cL_law 623 = .ok (.iload_n 3, 1) := by decide +kernel
theorem dL_law_624 : decode cL_law 624 = .ok (.iconst 1, 1) := by decide +kernel
theorem dL_law_625 : decode cL_law 625 = .ok (.iadd, 1) := by decide +kernel
theorem dL_law_626 : decode cL_law 626 = .ok (.iaload, 1) := by decide +kernel
theorem dL_law_627 : decode cL_law 627 = .ok (.aload_n 0, 1) := by decide +kernel
theorem dL_law_628 : decode cL_law 628 = .ok (.iload_n 3, 1) := by decide +kernel
theorem dL_law_629 : decode cL_law 629 = .ok (.iconst 2, 1) := by decide +kernel
theorem dL_law_630 : decode cL_law 630 = .ok (.iadd, 1) := by decide +kernel
theorem dL_law_631 : decode cL_law 631 = .ok (.iaload, 1) := by decide +kernel
theorem dL_law_632 : decode cL_law 632 = .ok (.aload_n 0, 1) := by decide +kernel
theorem dL_law_633 : decode cL_law 633 = .ok (.iload_n 3, 1) := by decide +kernel
theorem dL_law_634 : decode cL_law 634 = .ok (.iconst 3, 1) := by decide +kernel
theorem dL_law_635 : decode cL_law 635 = .ok (.iadd, 1) := by decide +kernel
theorem dL_law_636 : decode cL_law 636 = .ok (.iaload, 1) := by decide +kernel
theorem dL_law_637 : decode cL_law 637 = .ok (.invokevirtual 66, 3) := by decide +kernel
theorem dL_law_640 : decode cL_law 640 = .ok (.aload_n 2, 1) := by decide +kernel
theorem dL_law_641 : decode cL_law 641 = .ok (.aload_n 0, 1) := by decide +kernel
theorem dL_law_642 : decode cL_law 642 = .ok (.iload_n 3, 1) := by decide +kernel
theorem dL_law_643 : decode cL_law 643 = .ok (.iconst 1, 1) := by decide +kernel
theorem dL_law_644 : decode cL_law 644 = .ok (.iadd, 1) := by decide +kernel
theorem dL_law_645 : decode cL_law 645 = .ok (.iaload, 1) := by decide +kernel
theorem dL_law_646 : decode cL_law 646 = .ok (.aload_n 0, 1) := by decide +kernel
theorem dL_law_647 : decode cL_law 647 = .ok (.iload_n 3, 1) := by decide +kernel
theorem dL_law_648 : decode cL_law 648 = .ok (.iconst 2, 1) := by decide +kernel
theorem dL_law_649 : decode cL_law 649 = .ok (.iadd, 1) := by decide +kernel
theorem dL_law_650 : decode cL_law 650 = .ok (.iaload, 1) := by decide +kernel
theorem dL_law_651 : decode cL_law 651 = .ok (.aload_n 0, 1) := by decide +kernel
theorem dL_law_652 : decode cL_law 652 = .ok (.iload_n 3, 1) := by decide +kernel
theorem dL_law_653 : decode cL_law 653 = .ok (.iconst 3, 1) := by decide +kernel
theorem dL_law_654 : decode cL_law 654 = .ok (.iadd, 1) := by decide +kernel
theorem dL_law_655 : decode cL_law 655 = .ok (.iaload, 1) := by decide +kernel
theorem dL_law_656 : decode cL_law 656 = .ok (.invokevirtual 69, 3) := by decide +kernel
theorem dL_law_659 : decode cL_law 659 = .ok (.lcmp, 1) := by decide +kernel
theorem dL_law_660 : decode cL_law 660 = .ok (.ifCond .eq 815, 3) := by decide +kernel
theorem dL_law_663 : decode cL_law 663 = .ok (.iconst 0, 1) := by decide +kernel
theorem dL_law_664 : decode cL_law 664 = .ok (.ireturn, 1) := by decide +kernel
theorem dL_law_665 : decode cL_law 665 = .ok (.aload_n 1, 1) := by decide +kernel
theorem dL_law_666 : decode cL_law 666 = .ok (.aload_n 0, 1) := by decide +kernel
theorem dL_law_667 : decode cL_law 667 = .ok (.iload_n 3, 1) := by decide +kernel
theorem dL_law_668 : decode cL_law 668 = .ok (.iconst 1, 1) := by decide +kernel
theorem dL_law_669 : decode cL_law 669 = .ok (.iadd, 1) := by decide +kernel
theorem dL_law_670 : decode cL_law 670 = .ok (.iaload, 1) := by decide +kernel
theorem dL_law_671 : decode cL_law 671 = .ok (.aload_n 0, 1) := by decide +kernel
theorem dL_law_672 : decode cL_law 672 = .ok (.iload_n 3, 1) := by decide +kernel
theorem dL_law_673 : decode cL_law 673 = .ok (.iconst 2, 1) := by decide +kernel
theorem dL_law_674 : decode cL_law 674 = .ok (.iadd, 1) := by decide +kernel
theorem dL_law_675 : decode cL_law 675 = .ok (.iaload, 1) := by decide +kernel
theorem dL_law_676 : decode cL_law 676 = .ok (.aload_n 0, 1) := by decide +kernel
theorem dL_law_677 : decode cL_law 677 = .ok (.iload_n 3, 1) := by decide +kernel
theorem dL_law_678 : decode cL_law 678 = .ok (.iconst 3, 1) := by decide +kernel
theorem dL_law_679 : decode cL_law 679 = .ok (.iadd, 1) := by decide +kernel
theorem dL_law_680 : decode cL_law 680 = .ok (.iaload, 1) := by decide +kernel
theorem dL_law_681 : decode cL_law 681 = .ok (.aload_n 0, 1) := by decide +kernel
theorem dL_law_682 : decode cL_law 682 = .ok (.iload_n 3, 1) := by decide +kernel
theorem dL_law_683 : decode cL_law 683 = .ok (.iconst 4, 1) := by decide +kernel
theorem dL_law_684 : decode cL_law 684 = .ok (.iadd, 1) := by decide +kernel
theorem dL_law_685 : decode cL_law 685 = .ok (.iaload, 1) := by decide +kernel
theorem dL_law_686 : decode cL_law 686 = .ok (.invokevirtual 70, 3) := by decide +kernel
theorem dL_law_689 : decode cL_law 689 = .ok (.aload_n 2, 1) := by decide +kernel
theorem dL_law_690 : decode cL_law 690 = .ok (.aload_n 0, 1) := by decide +kernel
theorem dL_law_691 : decode cL_law 691 = .ok (.iload_n 3, 1) := by decide +kernel
theorem dL_law_692 : decode cL_law 692 = .ok (.iconst 1, 1) := by decide +kernel
theorem dL_law_693 : decode cL_law 693 = .ok (.iadd, 1) := by decide +kernel
theorem dL_law_694 : decode cL_law 694 = .ok (.iaload, 1) := by decide +kernel
theorem dL_law_695 : decode cL_law 695 = .ok (.aload_n 0, 1) := by decide +kernel
theorem dL_law_696 : decode cL_law 696 = .ok (.iload_n 3, 1) := by decide +kernel
theorem dL_law_697 : decode cL_law 697 = .ok (.iconst 2, 1) := by decide +kernel
theorem dL_law_698 : decode cL_law 698 = .ok (.iadd, 1) := by decide +kernel
theorem dL_law_699 : decode cL_law 699 = .ok (.iaload, 1) := by decide +kernel
theorem dL_law_700 : decode cL_law 700 = .ok (.aload_n 0, 1) := by decide +kernel
theorem dL_law_701 : decode cL_law 701 = .ok (.iload_n 3, 1) := by decide +kernel
theorem dL_law_702 : decode cL_law 702 = .ok (.iconst 3, 1) := by decide +kernel
theorem dL_law_703 : decode cL_law 703 = .ok (.iadd, 1) := by decide +kernel
theorem dL_law_704 : decode cL_law 704 = .ok (.iaload, 1) := by decide +kernel
theorem dL_law_705 : decode cL_law 705 = .ok (.aload_n 0, 1) := by decide +kernel
theorem dL_law_706 : decode cL_law 706 = .ok (.iload_n 3, 1) := by decide +kernel
theorem dL_law_707 : decode cL_law 707 = .ok (.iconst 4, 1) := by decide +kernel
theorem dL_law_708 : decode cL_law 708 = .ok (.iadd, 1) := by decide +kernel
theorem dL_law_709 : decode cL_law 709 = .ok (.iaload, 1) := by decide +kernel
theorem dL_law_710 : decode cL_law 710 = .ok (.invokevirtual 74, 3) := by decide +kernel
theorem dL_law_713 : decode cL_law 713 = .ok (.lcmp, 1) := by decide +kernel
theorem dL_law_714 : decode cL_law 714 = .ok (.ifCond .eq 761, 3) := by decide +kernel
theorem dL_law_717 : decode cL_law 717 = .ok (.iconst 0, 1) := by decide +kernel
theorem dL_law_718 : decode cL_law 718 = .ok (.ireturn, 1) := by decide +kernel
theorem dL_law_719 : decode cL_law 719 = .ok (.aload_n 1, 1) := by decide +kernel
theorem dL_law_720 : decode cL_law 720 = .ok (.aload_n 0, 1) := by decide +kernel
theorem dL_law_721 : decode cL_law 721 = .ok (.iload_n 3, 1) := by decide +kernel
theorem dL_law_722 : decode cL_law 722 = .ok (.iconst 1, 1) := by decide +kernel
theorem dL_law_723 : decode cL_law 723 = .ok (.iadd, 1) := by decide +kernel
theorem dL_law_724 : decode cL_law 724 = .ok (.iaload, 1) := by decide +kernel
theorem dL_law_725 : decode cL_law 725 = .ok (.aload_n 0, 1) := by decide +kernel
theorem dL_law_726 : decode cL_law 726 = .ok (.iload_n 3, 1) := by decide +kernel
theorem dL_law_727 : decode cL_law 727 = .ok (.iconst 2, 1) := by decide +kernel
theorem dL_law_728 : decode cL_law 728 = .ok (.iadd, 1) := by decide +kernel
theorem dL_law_729 : decode cL_law 729 = .ok (.iaload, 1) := by decide +kernel
theorem dL_law_730 : decode cL_law 730 = .ok (.invokevirtual 75, 3) := by decide +kernel
theorem dL_law_733 : decode cL_law 733 = .ok (.aload_n 2, 1) := by decide +kernel
theorem dL_law_734 : decode cL_law 734 = .ok (.aload_n 0, 1) := by decide +kernel
theorem dL_law_735 : decode cL_law 735 = .ok (.iload_n 3, 1) := by decide +kernel
theorem dL_law_736 : decode cL_law 736 = .ok (.iconst 1, 1) := by decide +kernel
theorem dL_law_737 : decode cL_law 737 = .ok (.iadd, 1) := by decide +kernel
theorem dL_law_738 : decode cL_law 738 = .ok (.iaload, 1) := by decide +kernel
theorem dL_law_739 : decode cL_law 739 = .ok (.aload_n 0, 1) := by decide +kernel
theorem dL_law_740 : decode cL_law 740 = .ok (.iload_n 3, 1) := by decide +kernel
theorem dL_law_741 : decode cL_law 741 = .ok (.iconst 2, 1) := by decide +kernel
theorem dL_law_742 : decode cL_law 742 = .ok (.iadd, 1) := by decide +kernel
theorem dL_law_743 : decode cL_law 743 = .ok (.iaload, 1) := by decide +kernel
theorem dL_law_744 : decode cL_law 744 = .ok (.invokevirtual 78, 3) := by decide +kernel
theorem dL_law_747 : decode cL_law 747 = .ok (.lcmp, 1) := by decide +kernel
theorem dL_law_748 : decode cL_law 748 = .ok (.ifCond .eq 727, 3) := by decide +kernel
theorem dL_law_751 : decode cL_law 751 = .ok (.iconst 0, 1) := by decide +kernel
theorem dL_law_752 : decode cL_law 752 = .ok (.ireturn, 1) := by decide +kernel
theorem dL_law_753 : decode cL_law 753 = .ok (.aload_n 1, 1) := by decide +kernel
theorem dL_law_754 : decode cL_law 754 = .ok (.aload_n 0, 1) := by decide +kernel
theorem dL_law_755 : decode cL_law 755 = .ok (.iload_n 3, 1) := by decide +kernel
theorem dL_law_756 : decode cL_law 756 = .ok (.iconst 1, 1) := by decide +kernel
theorem dL_law_757 : decode cL_law 757 = .ok (.iadd, 1) := by decide +kernel
theorem dL_law_758 : decode cL_law 758 = .ok (.iaload, 1) := by decide +kernel
theorem dL_law_759 : decode cL_law 759 = .ok (.invokevirtual 79, 3) := by decide +kernel
theorem dL_law_762 : decode cL_law 762 = .ok (.aload_n 2, 1) := by decide +kernel
theorem dL_law_763 : decode cL_law 763 = .ok (.aload_n 0, 1) := by decide +kernel
theorem dL_law_764 : decode cL_law 764 = .ok (.iload_n 3, 1) := by decide +kernel
theorem dL_law_765 : decode cL_law 765 = .ok (.iconst 1, 1) := by decide +kernel
theorem dL_law_766 : decode cL_law 766 = .ok (.iadd, 1) := by decide +kernel
theorem dL_law_767 : decode cL_law 767 = .ok (.iaload, 1) := by decide +kernel
theorem dL_law_768 : decode cL_law 768 = .ok (.invokevirtual 82, 3) := by decide +kernel
theorem dL_law_771 : decode cL_law 771 = .ok (.lcmp, 1) := by decide +kernel
theorem dL_law_772 : decode cL_law 772 = .ok (.ifCond .eq 703, 3) := by decide +kernel
theorem dL_law_775 : decode cL_law 775 = .ok (.iconst 0, 1) := by decide +kernel
theorem dL_law_776 : decode cL_law 776 = .ok (.ireturn, 1) := by decide +kernel
theorem dL_law_777 : decode cL_law 777 = .ok (.aload_n 1, 1) := by decide +kernel
theorem dL_law_778 : decode cL_law 778 = .ok (.invokevirtual 83, 3) := by decide +kernel
theorem dL_law_781 : decode cL_law 781 = .ok (.aload_n 2, 1) := by decide +kernel
theorem dL_law_782 : decode cL_law 782 = .ok (.invokevirtual 86, 3) := by decide +kernel
theorem dL_law_785 : decode cL_law 785 = .ok (.lcmp, 1) := by decide +kernel
theorem dL_law_786 : decode cL_law 786 = .ok (.ifCond .eq 689, 3) := by decide +kernel
theorem dL_law_789 : decode cL_law 789 = .ok (.iconst 0, 1) := by decide +kernel
theorem dL_law_790 : decode cL_law 790 = .ok (.ireturn, 1) := by decide +kernel
theorem dL_law_791 : decode cL_law 791 = .ok (.aload_n 1, 1) := by decide +kernel
theorem dL_law_792 : decode cL_law 792 = .ok (.aload_n 0, 1) := by decide +kernel
theorem dL_law_793 : decode cL_law 793 = .ok (.iload_n 3, 1) := by decide +kernel
theorem dL_law_794 : decode cL_law 794 = .ok (.iconst 1, 1) := by decide +kernel
theorem dL_law_795 : decode cL_law 795 = .ok (.iadd, 1) := by decide +kernel
theorem dL_law_796 : decode cL_law 796 = .ok (.iaload, 1) := by decide +kernel
theorem dL_law_797 : decode cL_law 797 = .ok (.aload_n 0, 1) := by decide +kernel
theorem dL_law_798 : decode cL_law 798 = .ok (.iload_n 3, 1) := by decide +kernel
theorem dL_law_799 : decode cL_law 799 = .ok (.iconst 2, 1) := by decide +kernel
theorem dL_law_800 : decode cL_law 800 = .ok (.iadd, 1) := by decide +kernel
theorem dL_law_801 : decode cL_law 801 = .ok (.iaload, 1) := by decide +kernel
theorem dL_law_802 : decode cL_law 802 = .ok (.invokevirtual 87, 3) := by decide +kernel
theorem dL_law_805 : decode cL_law 805 = .ok (.aload_n 2, 1) := by decide +kernel
theorem dL_law_806 : decode cL_law 806 = .ok (.aload_n 0, 1) := by decide +kernel
theorem dL_law_807 : decode cL_law 807 = .ok (.iload_n 3, 1) := by decide +kernel
theorem dL_law_808 : decode cL_law 808 = .ok (.iconst 1, 1) := by decide +kernel
theorem dL_law_809 : decode cL_law 809 = .ok (.iadd, 1) := by decide +kernel
theorem dL_law_810 : decode cL_law 810 = .ok (.iaload, 1) := by decide +kernel
theorem dL_law_811 : decode cL_law 811 = .ok (.aload_n 0, 1) := by decide +kernel
theorem dL_law_812 : decode cL_law 812 = .ok (.iload_n 3, 1) := by decide +kernel
theorem dL_law_813 : decode cL_law 813 = .ok (.iconst 2, 1) := by decide +kernel
theorem dL_law_814 : decode cL_law 814 = .ok (.iadd, 1) := by decide +kernel
theorem dL_law_815 : decode cL_law 815 = .ok (.iaload, 1) := by decide +kernel
theorem dL_law_816 : decode cL_law 816 = .ok (.invokevirtual 90, 3) := by decide +kernel
theorem dL_law_819 : decode cL_law 819 = .ok (.lcmp, 1) := by decide +kernel
theorem dL_law_820 : decode cL_law 820 = .ok (.ifCond .eq 655, 3) := by decide +kernel
theorem dL_law_823 : decode cL_law 823 = .ok (.iconst 0, 1) := by decide +kernel
theorem dL_law_824 : decode cL_law 824 = .ok (.ireturn, 1) := by decide +kernel
theorem dL_law_825 : decode cL_law 825 = .ok (.aload_n 1, 1) := by decide +kernel
theorem dL_law_826 : decode cL_law 826 = .ok (.aload_n 0, 1) := by decide +kernel
theorem dL_law_827 : decode cL_law 827 = .ok (.iload_n 3, 1) := by decide +kernel
theorem dL_law_828 : decode cL_law 828 = .ok (.iconst 1, 1) := by decide +kernel
theorem dL_law_829 : decode cL_law 829 = .ok (.iadd, 1) := by decide +kernel
theorem dL_law_830 : decode cL_law 830 = .ok (.iaload, 1) := by decide +kernel
theorem dL_law_831 : decode cL_law 831 = .ok (.aload_n 0, 1) := by decide +kernel
theorem dL_law_832 : decode cL_law 832 = .ok (.iload_n 3, 1) := by decide +kernel
theorem dL_law_833 : decode cL_law 833 = .ok (.iconst 2, 1) := by decide +kernel
theorem dL_law_834 : decode cL_law 834 = .ok (.iadd, 1) := by decide +kernel
theorem dL_law_835 : decode cL_law 835 = .ok (.iaload, 1) := by decide +kernel
theorem dL_law_836 : decode cL_law 836 = .ok (.invokevirtual 91, 3) := by decide +kernel
theorem dL_law_839 : decode cL_law 839 = .ok (.aload_n 2, 1) := by decide +kernel
theorem dL_law_840 : decode cL_law 840 = .ok (.aload_n 0, 1) := by decide +kernel
theorem dL_law_841 : decode cL_law 841 = .ok (.iload_n 3, 1) := by decide +kernel
theorem dL_law_842 : decode cL_law 842 = .ok (.iconst 1, 1) := by decide +kernel
theorem dL_law_843 : decode cL_law 843 = .ok (.iadd, 1) := by decide +kernel
theorem dL_law_844 : decode cL_law 844 = .ok (.iaload, 1) := by decide +kernel
theorem dL_law_845 : decode cL_law 845 = .ok (.aload_n 0, 1) := by decide +kernel
theorem dL_law_846 : decode cL_law 846 = .ok (.iload_n 3, 1) := by decide +kernel
theorem dL_law_847 : decode cL_law 847 = .ok (.iconst 2, 1) := by decide +kernel
theorem dL_law_848 : decode cL_law 848 = .ok (.iadd, 1) := by decide +kernel
theorem dL_law_849 : decode cL_law 849 = .ok (.iaload, 1) := by decide +kernel
theorem dL_law_850 : decode cL_law 850 = .ok (.invokevirtual 94, 3) := by decide +kernel
theorem dL_law_853 : decode cL_law 853 = .ok (.lcmp, 1) := by decide +kernel
theorem dL_law_854 : decode cL_law 854 = .ok (.ifCond .eq 621, 3) := by decide +kernel
theorem dL_law_857 : decode cL_law 857 = .ok (.iconst 0, 1) := by decide +kernel
theorem dL_law_858 : decode cL_law 858 = .ok (.ireturn, 1) := by decide +kernel
theorem dL_law_859 : decode cL_law 859 = .ok (.aload_n 1, 1) := by decide +kernel
theorem dL_law_860 : decode cL_law 860 = .ok (.aload_n 0, 1) := by decide +kernel
theorem dL_law_861 : decode cL_law 861 = .ok (.iload_n 3, 1) := by decide +kernel
theorem dL_law_862 : decode cL_law 862 = .ok (.iconst 1, 1) := by decide +kernel
theorem dL_law_863 : decode cL_law 863 = .ok (.iadd, 1) := by decide +kernel
theorem dL_law_864 : decode cL_law 864 = .ok (.iaload, 1) := by decide +kernel
theorem dL_law_865 : decode cL_law 865 = .ok (.invokevirtual 95, 3) := by decide +kernel
theorem dL_law_868 : decode cL_law 868 = .ok (.aload_n 2, 1) := by decide +kernel
theorem dL_law_869 : decode cL_law 869 = .ok (.aload_n 0, 1) := by decide +kernel
theorem dL_law_870 : decode cL_law 870 = .ok (.iload_n 3, 1) := by decide +kernel
theorem dL_law_871 : decode cL_law 871 = .ok (.iconst 1, 1) := by decide +kernel
theorem dL_law_872 : decode cL_law 872 = .ok (.iadd, 1) := by decide +kernel
theorem dL_law_873 : decode cL_law 873 = .ok (.iaload, 1) := by decide +kernel
theorem dL_law_874 : decode cL_law 874 = .ok (.invokevirtual 98, 3) := by decide +kernel
theorem dL_law_877 : decode cL_law 877 = .ok (.lcmp, 1) := by decide +kernel
theorem dL_law_878 : decode cL_law 878 = .ok (.ifCond .eq 597, 3) := by decide +kernel
theorem dL_law_881 : decode cL_law 881 = .ok (.iconst 0, 1) := by decide +kernel
theorem dL_law_882 : decode cL_law 882 = .ok (.ireturn, 1) := by decide +kernel
theorem dL_law_883 : decode cL_law 883 = .ok (.aload_n 1, 1) := by decide +kernel
theorem dL_law_884 : decode cL_law 884 = .ok (.aload_n 0, 1) := by decide +kernel
theorem dL_law_885 : decode cL_law 885 = .ok (.iload_n 3, 1) := by decide +kernel
theorem dL_law_886 : decode cL_law 886 = .ok (.iconst 1, 1) := by decide +kernel
theorem dL_law_887 : decode cL_law 887 = .ok (.iadd, 1) := by decide +kernel
theorem dL_law_888 : decode cL_law 888 = .ok (.iaload, 1) := by decide +kernel
theorem dL_law_889 : decode cL_law 889 = .ok (.invokevirtual 99, 3) := by decide +kernel
theorem dL_law_892 : decode cL_law 892 = .ok (.aload_n 2, 1) := by decide +kernel
theorem dL_law_893 : decode cL_law 893 = .ok (.aload_n 0, 1) := by decide +kernel
theorem dL_law_894 : decode cL_law 894 = .ok (.iload_n 3, 1) := by decide +kernel
theorem dL_law_895 : decode cL_law 895 = .ok (.iconst 1, 1) := by decide +kernel
theorem dL_law_896 : decode cL_law 896 = .ok (.iadd, 1) := by decide +kernel
theorem dL_law_897 : decode cL_law 897 = .ok (.iaload, 1) := by decide +kernel
theorem dL_law_898 : decode cL_law 898 = .ok (.invokevirtual 102, 3) := by decide +kernel
theorem dL_law_901 : decode cL_law 901 = .ok (.lcmp, 1) := by decide +kernel
theorem dL_law_902 : decode cL_law 902 = .ok (.ifCond .eq 573, 3) := by decide +kernel
theorem dL_law_905 : decode cL_law 905 = .ok (.iconst 0, 1) := by decide +kernel
theorem dL_law_906 : decode cL_law 906 = .ok (.ireturn, 1) := by decide +kernel
theorem dL_law_907 : decode cL_law 907 = .ok (.aload_n 1, 1) := by decide +kernel
theorem dL_law_908 : decode cL_law 908 = .ok (.invokevirtual 103, 3) := by decide +kernel
theorem dL_law_911 : decode cL_law 911 = .ok (.aload_n 2, 1) := by decide +kernel
theorem dL_law_912 : decode cL_law 912 = .ok (.invokevirtual 106, 3) := by decide +kernel
theorem dL_law_915 : decode cL_law 915 = .ok (.lcmp, 1) := by decide +kernel
theorem dL_law_916 : decode cL_law 916 = .ok (.ifCond .eq 559, 3) := by decide +kernel
theorem dL_law_919 : decode cL_law 919 = .ok (.iconst 0, 1) := by decide +kernel
theorem dL_law_920 : decode cL_law 920 = .ok (.ireturn, 1) := by decide +kernel
theorem dL_law_921 : decode cL_law 921 = .ok (.aload_n 1, 1) := by decide +kernel
theorem dL_law_922 : decode cL_law 922 = .ok (.invokevirtual 107, 3) := by decide +kernel
theorem dL_law_925 : decode cL_law 925 = .ok (.aload_n 2, 1) := by decide +kernel
theorem dL_law_926 : decode cL_law 926 = .ok (.invokevirtual 110, 3) := by decide +kernel
theorem dL_law_929 : decode cL_law 929 = .ok (.lcmp, 1) := by decide +kernel
theorem dL_law_930 : decode cL_law 930 = .ok (.ifCond .eq 545, 3) := by decide +kernel
theorem dL_law_933 : decode cL_law 933 = .ok (.iconst 0, 1) := by decide +kernel
theorem dL_law_934 : decode cL_law 934 = .ok (.ireturn, 1) := by decide +kernel
theorem dL_law_935 : decode cL_law 935 = .ok (.aload_n 1, 1) := by decide +kernel
theorem dL_law_936 : decode cL_law 936 = .ok (.aload_n 0, 1) := by decide +kernel
theorem dL_law_937 : decode cL_law 937 = .ok (.iload_n 3, 1) := by decide +kernel
theorem dL_law_938 : decode cL_law 938 = .ok (.iconst 1, 1) := by decide +kernel
theorem dL_law_939 : decode cL_law 939 = .ok (.iadd, 1) := by decide +kernel
theorem dL_law_940 : decode cL_law 940 = .ok (.iaload, 1) := by decide +kernel
theorem dL_law_941 : decode cL_law 941 = .ok (.invokevirtual 111, 3) := by decide +kernel
theorem dL_law_944 : decode cL_law 944 = .ok (.aload_n 2, 1) := by decide +kernel
theorem dL_law_945 : decode cL_law 945 = .ok (.aload_n 0, 1) := by decide +kernel
theorem dL_law_946 : decode cL_law 946 = .ok (.iload_n 3, 1) := by decide +kernel
theorem dL_law_947 : decode cL_law 947 = .ok (.iconst 1, 1) := by decide +kernel
theorem dL_law_948 : decode cL_law 948 = .ok (.iadd, 1) := by decide +kernel
theorem dL_law_949 : decode cL_law 949 = .ok (.iaload, 1) := by decide +kernel
theorem dL_law_950 : decode cL_law 950 = .ok (.invokevirtual 114, 3) := by decide +kernel
theorem dL_law_953 : decode cL_law 953 = .ok (.lcmp, 1) := by decide +kernel
theorem dL_law_954 : decode cL_law 954 = .ok (.ifCond .eq 521, 3) := by decide +kernel
theorem dL_law_957 : decode cL_law 957 = .ok (.iconst 0, 1) := by decide +kernel
theorem dL_law_958 : decode cL_law 958 = .ok (.ireturn, 1) := by decide +kernel
theorem dL_law_959 : decode cL_law 959 = .ok (.aload_n 1, 1) := by decide +kernel
theorem dL_law_960 : decode cL_law 960 = .ok (.aload_n 0, 1) := by decide +kernel
theorem dL_law_961 : decode cL_law 961 = .ok (.iload_n 3, 1) := by decide +kernel
theorem dL_law_962 : decode cL_law 962 = .ok (.iconst 1, 1) := by decide +kernel
theorem dL_law_963 : decode cL_law 963 = .ok (.iadd, 1) := by decide +kernel
theorem dL_law_964 : decode cL_law 964 = .ok (.iaload, 1) := by decide +kernel
theorem dL_law_965 : decode cL_law 965 = .ok (.aload_n 0, 1) := by decide +kernel
theorem dL_law_966 : decode cL_law 966 = .ok (.iload_n 3, 1) := by decide +kernel
theorem dL_law_967 : decode cL_law 967 = .ok (.iconst 2, 1) := by decide +kernel
theorem dL_law_968 : decode cL_law 968 = .ok (.iadd, 1) := by decide +kernel
theorem dL_law_969 : decode cL_law 969 = .ok (.iaload, 1) := by decide +kernel
theorem dL_law_970 : decode cL_law 970 = .ok (.invokevirtual 115, 3) := by decide +kernel
theorem dL_law_973 : decode cL_law 973 = .ok (.aload_n 2, 1) := by decide +kernel
theorem dL_law_974 : decode cL_law 974 = .ok (.aload_n 0, 1) := by decide +kernel
theorem dL_law_975 : decode cL_law 975 = .ok (.iload_n 3, 1) := by decide +kernel
theorem dL_law_976 : decode cL_law 976 = .ok (.iconst 1, 1) := by decide +kernel
theorem dL_law_977 : decode cL_law 977 = .ok (.iadd, 1) := by decide +kernel
theorem dL_law_978 : decode cL_law 978 = .ok (.iaload, 1) := by decide +kernel
theorem dL_law_979 : decode cL_law 979 = .ok (.aload_n 0, 1) := by decide +kernel
theorem dL_law_980 : decode cL_law 980 = .ok (.iload_n 3, 1) := by decide +kernel
theorem dL_law_981 : decode cL_law 981 = .ok (.iconst 2, 1) := by decide +kernel
theorem dL_law_982 : decode cL_law 982 = .ok (.iadd, 1) := by decide +kernel
theorem dL_law_983 : decode cL_law 983 = .ok (.iaload, 1) := by decide +kernel
theorem dL_law_984 : decode cL_law 984 = .ok (.invokevirtual 118, 3) := by decide +kernel
theorem dL_law_987 : decode cL_law 987 = .ok (.lcmp, 1) := by decide +kernel
theorem dL_law_988 : decode cL_law 988 = .ok (.ifCond .eq 487, 3) := by decide +kernel
theorem dL_law_991 : decode cL_law 991 = .ok (.iconst 0, 1) := by decide +kernel
theorem dL_law_992 : decode cL_law 992 = .ok (.ireturn, 1) := by decide +kernel
theorem dL_law_993 : decode cL_law 993 = .ok (.aload_n 1, 1) := by decide +kernel
theorem dL_law_994 : decode cL_law 994 = .ok (.aload_n 0, 1) := by decide +kernel
theorem dL_law_995 : decode cL_law 995 = .ok (.iload_n 3, 1) := by decide +kernel
theorem dL_law_996 : decode cL_law 996 = .ok (.iconst 1, 1) := by decide +kernel
theorem dL_law_997 : decode cL_law 997 = .ok (.iadd, 1) := by decide +kernel
theorem dL_law_998 : decode cL_law 998 = .ok (.iaload, 1) := by decide +kernel
theorem dL_law_999 : decode cL_law 999 = .ok (.aload_n 0, 1) := by decide +kernel
theorem dL_law_1000 : decode cL_law 1000 = .ok (.iload_n 3, 1) := by decide +kernel
theorem dL_law_1001 : decode cL_law 1001 = .ok (.iconst 2, 1) := by decide +kernel
theorem dL_law_1002 : decode cL_law 1002 = .ok (.iadd, 1) := by decide +kernel
theorem dL_law_1003 : decode cL_law 1003 = .ok (.iaload, 1) := by decide +kernel
theorem dL_law_1004 : decode cL_law 1004 = .ok (.aload_n 0, 1) := by decide +kernel
theorem dL_law_1005 : decode cL_law 1005 = .ok (.iload_n 3, 1) := by decide +kernel
theorem dL_law_1006 : decode cL_law 1006 = .ok (.iconst 3, 1) := by decide +kernel
theorem dL_law_1007 : decode cL_law 1007 = .ok (.iadd, 1) := by decide +kernel
theorem dL_law_1008 : decode cL_law 1008 = .ok (.iaload, 1) := by decide +kernel
theorem dL_law_1009 : decode cL_law 1009 = .ok (.aload_n 0, 1) := by decide +kernel
theorem dL_law_1010 : decode cL_law 1010 = .ok (.iload_n 3, 1) := by decide +kernel
theorem dL_law_1011 : decode cL_law 1011 = .ok (.iconst 4, 1) := by decide +kernel
theorem dL_law_1012 : decode cL_law 1012 = .ok (.iadd, 1) := by decide +kernel
theorem dL_law_1013 : decode cL_law 1013 = .ok (.iaload, 1) := by decide +kernel
theorem dL_law_1014 : decode cL_law 1014 = .ok (.invokevirtual 119, 3) := by decide +kernel
theorem dL_law_1017 : decode cL_law 1017 = .ok (.aload_n 2, 1) := by decide +kernel
theorem dL_law_1018 : decode cL_law 1018 = .ok (.aload_n 0, 1) := by decide +kernel
theorem dL_law_1019 : decode cL_law 1019 = .ok (.iload_n 3, 1) := by decide +kernel
theorem dL_law_1020 : decode cL_law 1020 = .ok (.iconst 1, 1) := by decide +kernel
theorem dL_law_1021 : decode cL_law 1021 = .ok (.iadd, 1) := by decide +kernel
theorem dL_law_1022 : decode cL_law 1022 = .ok (.iaload, 1) := by decide +kernel
theorem dL_law_1023 : decode cL_law 1023 = .ok (.aload_n 0, 1) := by decide +kernel
theorem dL_law_1024 : decode cL_law 1024 = .ok (.iload_n 3, 1) := by decide +kernel
theorem dL_law_1025 : decode cL_law 1025 = .ok (.iconst 2, 1) := by decide +kernel
theorem dL_law_1026 : decode cL_law 1026 = .ok (.iadd, 1) := by decide +kernel
theorem dL_law_1027 : decode cL_law 1027 = .ok (.iaload, 1) := by decide +kernel
theorem dL_law_1028 : decode cL_law 1028 = .ok (.aload_n 0, 1) := by decide +kernel
theorem dL_law_1029 : decode cL_law 1029 = .ok (.iload_n 3, 1) := by decide +kernel
theorem dL_law_1030 : decode cL_law 1030 = .ok (.iconst 3, 1) := by decide +kernel
theorem dL_law_1031 : decode cL_law 1031 = .ok (.iadd, 1) := by decide +kernel
theorem dL_law_1032 : decode cL_law 1032 = .ok (.iaload, 1) := by decide +kernel
theorem dL_law_1033 : decode cL_law 1033 = .ok (.aload_n 0, 1) := by decide +kernel
theorem dL_law_1034 : decode cL_law 1034 = .ok (.iload_n 3, 1) := by decide +kernel
theorem dL_law_1035 : decode cL_law 1035 = .ok (.iconst 4, 1) := by decide +kernel
theorem dL_law_1036 : decode cL_law 1036 = .ok (.iadd, 1) := by decide +kernel
theorem dL_law_1037 : decode cL_law 1037 = .ok (.iaload, 1) := by decide +kernel
theorem dL_law_1038 : decode cL_law 1038 = .ok (.invokevirtual 122, 3) := by decide +kernel
theorem dL_law_1041 : decode cL_law 1041 = .ok (.lcmp, 1) := by decide +kernel
theorem dL_law_1042 : decode cL_law 1042 = .ok (.ifCond .eq 433, 3) := by decide +kernel
theorem dL_law_1045 : decode cL_law 1045 = .ok (.iconst 0, 1) := by decide +kernel
theorem dL_law_1046 : decode cL_law 1046 = .ok (.ireturn, 1) := by decide +kernel
theorem dL_law_1047 : decode cL_law 1047 = .ok (.aload_n 1, 1) := by decide +kernel
theorem dL_law_1048 : decode cL_law 1048 = .ok (.aload_n 0, 1) := by decide +kernel
theorem dL_law_1049 : decode cL_law 1049 = .ok (.iload_n 3, 1) := by decide +kernel
theorem dL_law_1050 : decode cL_law 1050 = .ok (.iconst 1, 1) := by decide +kernel
theorem dL_law_1051 : decode cL_law 1051 = .ok (.iadd, 1) := by decide +kernel
theorem dL_law_1052 : decode cL_law 1052 = .ok (.iaload, 1) := by decide +kernel
theorem dL_law_1053 : decode cL_law 1053 = .ok (.invokevirtual 123, 3) := by decide +kernel
theorem dL_law_1056 : decode cL_law 1056 = .ok (.aload_n 2, 1) := by decide +kernel
theorem dL_law_1057 : decode cL_law 1057 = .ok (.aload_n 0, 1) := by decide +kernel
theorem dL_law_1058 : decode cL_law 1058 = .ok (.iload_n 3, 1) := by decide +kernel
theorem dL_law_1059 : decode cL_law 1059 = .ok (.iconst 1, 1) := by decide +kernel
theorem dL_law_1060 : decode cL_law 1060 = .ok (.iadd, 1) := by decide +kernel
theorem dL_law_1061 : decode cL_law 1061 = .ok (.iaload, 1) := by decide +kernel
theorem dL_law_1062 : decode cL_law 1062 = .ok (.invokevirtual 126, 3) := by decide +kernel
theorem dL_law_1065 : decode cL_law 1065 = .ok (.lcmp, 1) := by decide +kernel
theorem dL_law_1066 : decode cL_law 1066 = .ok (.ifCond .eq 409, 3) := by decide +kernel
theorem dL_law_1069 : decode cL_law 1069 = .ok (.iconst 0, 1) := by decide +kernel
theorem dL_law_1070 : decode cL_law 1070 = .ok (.ireturn, 1) := by decide +kernel
theorem dL_law_1071 : decode cL_law 1071 = .ok (.aload_n 1, 1) := by decide +kernel
theorem dL_law_1072 : decode cL_law 1072 = .ok (.aload_n 0, 1) := by decide +kernel
theorem dL_law_1073 : decode cL_law 1073 = .ok (.iload_n 3, 1) := by decide +kernel
theorem dL_law_1074 : decode cL_law 1074 = .ok (.iconst 1, 1) := by decide +kernel
theorem dL_law_1075 : decode cL_law 1075 = .ok (.iadd, 1) := by decide +kernel
theorem dL_law_1076 : decode cL_law 1076 = .ok (.iaload, 1) := by decide +kernel
theorem dL_law_1077 : decode cL_law 1077 = .ok (.aload_n 0, 1) := by decide +kernel
theorem dL_law_1078 : decode cL_law 1078 = .ok (.iload_n 3, 1) := by decide +kernel
theorem dL_law_1079 : decode cL_law 1079 = .ok (.iconst 2, 1) := by decide +kernel
theorem dL_law_1080 : decode cL_law 1080 = .ok (.iadd, 1) := by decide +kernel
theorem dL_law_1081 : decode cL_law 1081 = .ok (.iaload, 1) := by decide +kernel
theorem dL_law_1082 : decode cL_law 1082 = .ok (.invokevirtual 127, 3) := by decide +kernel
theorem dL_law_1085 : decode cL_law 1085 = .ok (.aload_n 2, 1) := by decide +kernel
theorem dL_law_1086 : decode cL_law 1086 = .ok (.aload_n 0, 1) := by decide +kernel
theorem dL_law_1087 : decode cL_law 1087 = .ok (.iload_n 3, 1) := by decide +kernel
theorem dL_law_1088 : decode cL_law 1088 = .ok (.iconst 1, 1) := by decide +kernel
theorem dL_law_1089 : decode cL_law 1089 = .ok (.iadd, 1) := by decide +kernel
theorem dL_law_1090 : decode cL_law 1090 = .ok (.iaload, 1) := by decide +kernel
theorem dL_law_1091 : decode cL_law 1091 = .ok (.aload_n 0, 1) := by decide +kernel
theorem dL_law_1092 : decode cL_law 1092 = .ok (.iload_n 3, 1) := by decide +kernel
theorem dL_law_1093 : decode cL_law 1093 = .ok (.iconst 2, 1) := by decide +kernel
theorem dL_law_1094 : decode cL_law 1094 = .ok (.iadd, 1) := by decide +kernel
theorem dL_law_1095 : decode cL_law 1095 = .ok (.iaload, 1) := by decide +kernel
theorem dL_law_1096 : decode cL_law 1096 = .ok (.invokevirtual 130, 3) := by decide +kernel
theorem dL_law_1099 : decode cL_law 1099 = .ok (.lcmp, 1) := by decide +kernel
theorem dL_law_1100 : decode cL_law 1100 = .ok (.ifCond .eq 375, 3) := by decide +kernel
theorem dL_law_1103 : decode cL_law 1103 = .ok (.iconst 0, 1) := by decide +kernel
theorem dL_law_1104 : decode cL_law 1104 = .ok (.ireturn, 1) := by decide +kernel
theorem dL_law_1105 : decode cL_law 1105 = .ok (.aload_n 1, 1) := by decide +kernel
theorem dL_law_1106 : decode cL_law 1106 = .ok (.aload_n 0, 1) := by decide +kernel
theorem dL_law_1107 : decode cL_law 1107 = .ok (.iload_n 3, 1) := by decide +kernel
theorem dL_law_1108 : decode cL_law 1108 = .ok (.iconst 1, 1) := by decide +kernel
theorem dL_law_1109 : decode cL_law 1109 = .ok (.iadd, 1) := by decide +kernel
theorem dL_law_1110 : decode cL_law 1110 = .ok (.iaload, 1) := by decide +kernel
theorem dL_law_1111 : decode cL_law 1111 = .ok (.aload_n 0, 1) := by decide +kernel
theorem dL_law_1112 : decode cL_law 1112 = .ok (.iload_n 3, 1) := by decide +kernel
theorem dL_law_1113 : decode cL_law 1113 = .ok (.iconst 2, 1) := by decide +kernel
theorem dL_law_1114 : decode cL_law 1114 = .ok (.iadd, 1) := by decide +kernel
theorem dL_law_1115 : decode cL_law 1115 = .ok (.iaload, 1) := by decide +kernel
theorem dL_law_1116 : decode cL_law 1116 = .ok (.invokevirtual 131, 3) := by decide +kernel
theorem dL_law_1119 : decode cL_law 1119 = .ok (.aload_n 2, 1) := by decide +kernel
theorem dL_law_1120 : decode cL_law 1120 = .ok (.aload_n 0, 1) := by decide +kernel
theorem dL_law_1121 : decode cL_law 1121 = .ok (.iload_n 3, 1) := by decide +kernel
theorem dL_law_1122 : decode cL_law 1122 = .ok (.iconst 1, 1) := by decide +kernel
theorem dL_law_1123 : decode cL_law 1123 = .ok (.iadd, 1) := by decide +kernel
theorem dL_law_1124 : decode cL_law 1124 = .ok (.iaload, 1) := by decide +kernel
theorem dL_law_1125 : decode cL_law 1125 = .ok (.aload_n 0, 1) := by decide +kernel
theorem dL_law_1126 : decode cL_law 1126 = .ok (.iload_n 3, 1) := by decide +kernel
theorem dL_law_1127 : decode cL_law 1127 = .ok (.iconst 2, 1) := by decide +kernel
theorem dL_law_1128 : decode cL_law 1128 = .ok (.iadd, 1) := by decide +kernel
theorem dL_law_1129 : decode cL_law 1129 = .ok (.iaload, 1) := by decide +kernel
theorem dL_law_1130 : decode cL_law 1130 = .ok (.invokevirtual 134, 3) := by decide +kernel
theorem dL_law_1133 : decode cL_law 1133 = .ok (.lcmp, 1) := by decide +kernel
theorem dL_law_1134 : decode cL_law 1134 = .ok (.ifCond .eq 341, 3) := by decide +kernel
theorem dL_law_1137 : decode cL_law 1137 = .ok (.iconst 0, 1) := by decide +kernel
theorem dL_law_1138 : decode cL_law 1138 = .ok (.ireturn, 1) := by decide +kernel
theorem dL_law_1139 : decode cL_law 1139 = .ok (.aload_n 1, 1) := by decide +kernel
theorem dL_law_1140 : decode cL_law 1140 = .ok (.aload_n 0, 1) := by decide +kernel
theorem dL_law_1141 : decode cL_law 1141 = .ok (.iload_n 3, 1) := by decide +kernel
theorem dL_law_1142 : decode cL_law 1142 = .ok (.iconst 1, 1) := by decide +kernel
theorem dL_law_1143 : decode cL_law 1143 = .ok (.iadd, 1) := by decide +kernel
theorem dL_law_1144 : decode cL_law 1144 = .ok (.iaload, 1) := by decide +kernel
theorem dL_law_1145 : decode cL_law 1145 = .ok (.aload_n 0, 1) := by decide +kernel
theorem dL_law_1146 : decode cL_law 1146 = .ok (.iload_n 3, 1) := by decide +kernel
theorem dL_law_1147 : decode cL_law 1147 = .ok (.iconst 2, 1) := by decide +kernel
theorem dL_law_1148 : decode cL_law 1148 = .ok (.iadd, 1) := by decide +kernel
theorem dL_law_1149 : decode cL_law 1149 = .ok (.iaload, 1) := by decide +kernel
theorem dL_law_1150 : decode cL_law 1150 = .ok (.aload_n 0, 1) := by decide +kernel
theorem dL_law_1151 : decode cL_law 1151 = .ok (.iload_n 3, 1) := by decide +kernel
theorem dL_law_1152 : decode cL_law 1152 = .ok (.iconst 3, 1) := by decide +kernel
theorem dL_law_1153 : decode cL_law 1153 = .ok (.iadd, 1) := by decide +kernel
theorem dL_law_1154 : decode cL_law 1154 = .ok (.iaload, 1) := by decide +kernel
theorem dL_law_1155 : decode cL_law 1155 = .ok (.invokevirtual 135, 3) := by decide +kernel
theorem dL_law_1158 : decode cL_law 1158 = .ok (.aload_n 2, 1) := by decide +kernel
theorem dL_law_1159 : decode cL_law 1159 = .ok (.aload_n 0, 1) := by decide +kernel
theorem dL_law_1160 : decode cL_law 1160 = .ok (.iload_n 3, 1) := by decide +kernel
theorem dL_law_1161 : decode cL_law 1161 = .ok (.iconst 1, 1) := by decide +kernel
theorem dL_law_1162 : decode cL_law 1162 = .ok (.iadd, 1) := by decide +kernel
theorem dL_law_1163 : decode cL_law 1163 = .ok (.iaload, 1) := by decide +kernel
theorem dL_law_1164 : decode cL_law 1164 = .ok (.aload_n 0, 1) := by decide +kernel
theorem dL_law_1165 : decode cL_law 1165 = .ok (.iload_n 3, 1) := by decide +kernel
theorem dL_law_1166 : decode cL_law 1166 = .ok (.iconst 2, 1) := by decide +kernel
theorem dL_law_1167 : decode cL_law 1167 = .ok (.iadd, 1) := by decide +kernel
theorem dL_law_1168 : decode cL_law 1168 = .ok (.iaload, 1) := by decide +kernel
theorem dL_law_1169 : decode cL_law 1169 = .ok (.aload_n 0, 1) := by decide +kernel
theorem dL_law_1170 : decode cL_law 1170 = .ok (.iload_n 3, 1) := by decide +kernel
theorem dL_law_1171 : decode cL_law 1171 = .ok (.iconst 3, 1) := by decide +kernel
theorem dL_law_1172 : decode cL_law 1172 = .ok (.iadd, 1) := by decide +kernel
theorem dL_law_1173 : decode cL_law 1173 = .ok (.iaload, 1) := by decide +kernel
theorem dL_law_1174 : decode cL_law 1174 = .ok (.invokevirtual 138, 3) := by decide +kernel
theorem dL_law_1177 : decode cL_law 1177 = .ok (.lcmp, 1) := by decide +kernel
theorem dL_law_1178 : decode cL_law 1178 = .ok (.ifCond .eq 297, 3) := by decide +kernel
theorem dL_law_1181 : decode cL_law 1181 = .ok (.iconst 0, 1) := by decide +kernel
theorem dL_law_1182 : decode cL_law 1182 = .ok (.ireturn, 1) := by decide +kernel
theorem dL_law_1183 : decode cL_law 1183 = .ok (.aload_n 1, 1) := by decide +kernel
theorem dL_law_1184 : decode cL_law 1184 = .ok (.aload_n 0, 1) := by decide +kernel
theorem dL_law_1185 : decode cL_law 1185 = .ok (.iload_n 3, 1) := by decide +kernel
theorem dL_law_1186 : decode cL_law 1186 = .ok (.iconst 1, 1) := by decide +kernel
theorem dL_law_1187 : decode cL_law 1187 = .ok (.iadd, 1) := by decide +kernel
theorem dL_law_1188 : decode cL_law 1188 = .ok (.iaload, 1) := by decide +kernel
theorem dL_law_1189 : decode cL_law 1189 = .ok (.aload_n 0, 1) := by decide +kernel
theorem dL_law_1190 : decode cL_law 1190 = .ok (.iload_n 3, 1) := by decide +kernel
theorem dL_law_1191 : decode cL_law 1191 = .ok (.iconst 2, 1) := by decide +kernel
theorem dL_law_1192 : decode cL_law 1192 = .ok (.iadd, 1) := by decide +kernel
theorem dL_law_1193 : decode cL_law 1193 = .ok (.iaload, 1) := by decide +kernel
theorem dL_law_1194 : decode cL_law 1194 = .ok (.aload_n 0, 1) := by decide +kernel
theorem dL_law_1195 : decode cL_law 1195 = .ok (.iload_n 3, 1) := by decide +kernel
theorem dL_law_1196 : decode cL_law 1196 = .ok (.iconst 3, 1) := by decide +kernel
theorem dL_law_1197 : decode cL_law 1197 = .ok (.iadd, 1) := by decide +kernel
theorem dL_law_1198 : decode cL_law 1198 = .ok (.iaload, 1) := by decide +kernel
theorem dL_law_1199 : decode cL_law 1199 = .ok (.invokevirtual 139, 3) := by decide +kernel
theorem dL_law_1202 : decode cL_law 1202 = .ok (.aload_n 2, 1) := by decide +kernel
theorem dL_law_1203 : decode cL_law 1203 = .ok (.aload_n 0, 1) := by decide +kernel
theorem dL_law_1204 : decode cL_law 1204 = .ok (.iload_n 3, 1) := by decide +kernel
theorem dL_law_1205 : decode cL_law 1205 = .ok (.iconst 1, 1) := by decide +kernel
theorem dL_law_1206 : decode cL_law 1206 = .ok (.iadd, 1) := by decide +kernel
theorem dL_law_1207 : decode cL_law 1207 = .ok (.iaload, 1) := by decide +kernel
theorem dL_law_1208 : decode cL_law 1208 = .ok (.aload_n 0, 1) := by decide +kernel
theorem dL_law_1209 : decode cL_law 1209 = .ok (.iload_n 3, 1) := by decide +kernel
theorem dL_law_1210 : decode cL_law 1210 = .ok (.iconst 2, 1) := by decide +kernel
theorem dL_law_1211 : decode cL_law 1211 = .ok (.iadd, 1) := by decide +kernel
theorem dL_law_1212 : decode cL_law 1212 = .ok (.iaload, 1) := by decide +kernel
theorem dL_law_1213 : decode cL_law 1213 = .ok (.aload_n 0, 1) := by decide +kernel
theorem dL_law_1214 : decode cL_law 1214 = .ok (.iload_n 3, 1) := by decide +kernel
theorem dL_law_1215 : decode cL_law 1215 = .ok (.iconst 3, 1) := by decide +kernel
theorem dL_law_1216 : decode cL_law 1216 = .ok (.iadd, 1) := by decide +kernel
theorem dL_law_1217 : decode cL_law 1217 = .ok (.iaload, 1) := by decide +kernel
theorem dL_law_1218 : decode cL_law 1218 = .ok (.invokevirtual 142, 3) := by decide +kernel
theorem dL_law_1221 : decode cL_law 1221 = .ok (.lcmp, 1) := by decide +kernel
theorem dL_law_1222 : decode cL_law 1222 = .ok (.ifCond .eq 253, 3) := by decide +kernel
theorem dL_law_1225 : decode cL_law 1225 = .ok (.iconst 0, 1) := by decide +kernel
theorem dL_law_1226 : decode cL_law 1226 = .ok (.ireturn, 1) := by decide +kernel
theorem dL_law_1227 : decode cL_law 1227 = .ok (.aload_n 1, 1) := by decide +kernel
theorem dL_law_1228 : decode cL_law 1228 = .ok (.aload_n 0, 1) := by decide +kernel
theorem dL_law_1229 : decode cL_law 1229 = .ok (.iload_n 3, 1) := by decide +kernel
theorem dL_law_1230 : decode cL_law 1230 = .ok (.iconst 1, 1) := by decide +kernel
theorem dL_law_1231 : decode cL_law 1231 = .ok (.iadd, 1) := by decide +kernel
theorem dL_law_1232 : decode cL_law 1232 = .ok (.iaload, 1) := by decide +kernel
theorem dL_law_1233 : decode cL_law 1233 = .ok (.aload_n 0, 1) := by decide +kernel
theorem dL_law_1234 : decode cL_law 1234 = .ok (.iload_n 3, 1) := by decide +kernel
theorem dL_law_1235 : decode cL_law 1235 = .ok (.iconst 2, 1) := by decide +kernel
theorem dL_law_1236 : decode cL_law 1236 = .ok (.iadd, 1) := by decide +kernel
theorem dL_law_1237 : decode cL_law 1237 = .ok (.iaload, 1) := by decide +kernel
theorem dL_law_1238 : decode cL_law 1238 = .ok (.invokevirtual 143, 3) := by decide +kernel
theorem dL_law_1241 : decode cL_law 1241 = .ok (.aload_n 2, 1) := by decide +kernel
theorem dL_law_1242 : decode cL_law 1242 = .ok (.aload_n 0, 1) := by decide +kernel
theorem dL_law_1243 : decode cL_law 1243 = .ok (.iload_n 3, 1) := by decide +kernel
theorem dL_law_1244 : decode cL_law 1244 = .ok (.iconst 1, 1) := by decide +kernel
theorem dL_law_1245 : decode cL_law 1245 = .ok (.iadd, 1) := by decide +kernel
theorem dL_law_1246 : decode cL_law 1246 = .ok (.iaload, 1) := by decide +kernel
theorem dL_law_1247 : decode cL_law 1247 = .ok (.aload_n 0, 1) := by decide +kernel
theorem dL_law_1248 : decode cL_law 1248 = .ok (.iload_n 3, 1) := by decide +kernel
theorem dL_law_1249 : decode cL_law 1249 = .ok (.iconst 2, 1) := by decide +kernel
theorem dL_law_1250 : decode cL_law 1250 = .ok (.iadd, 1) := by decide +kernel
theorem dL_law_1251 : decode cL_law 1251 = .ok (.iaload, 1) := by decide +kernel
theorem dL_law_1252 : decode cL_law 1252 = .ok (.invokevirtual 146, 3) := by decide +kernel
theorem dL_law_1255 : decode cL_law 1255 = .ok (.lcmp, 1) := by decide +kernel
theorem dL_law_1256 : decode cL_law 1256 = .ok (.ifCond .eq 219, 3) := by decide +kernel
theorem dL_law_1259 : decode cL_law 1259 = .ok (.iconst 0, 1) := by decide +kernel
theorem dL_law_1260 : decode cL_law 1260 = .ok (.ireturn, 1) := by decide +kernel
theorem dL_law_1261 : decode cL_law 1261 = .ok (.aload_n 1, 1) := by decide +kernel
theorem dL_law_1262 : decode cL_law 1262 = .ok (.invokevirtual 147, 3) := by decide +kernel
theorem dL_law_1265 : decode cL_law 1265 = .ok (.aload_n 2, 1) := by decide +kernel
theorem dL_law_1266 : decode cL_law 1266 = .ok (.invokevirtual 150, 3) := by decide +kernel
theorem dL_law_1269 : decode cL_law 1269 = .ok (.lcmp, 1) := by decide +kernel
theorem dL_law_1270 : decode cL_law 1270 = .ok (.ifCond .eq 205, 3) := by decide +kernel
theorem dL_law_1273 : decode cL_law 1273 = .ok (.iconst 0, 1) := by decide +kernel
theorem dL_law_1274 : decode cL_law 1274 = .ok (.ireturn, 1) := by decide +kernel
theorem dL_law_1275 : decode cL_law 1275 = .ok (.aload_n 1, 1) := by decide +kernel
theorem dL_law_1276 : decode cL_law 1276 = .ok (.aload_n 0, 1) := by decide +kernel
theorem dL_law_1277 : decode cL_law 1277 = .ok (.iload_n 3, 1) := by decide +kernel
theorem dL_law_1278 : decode cL_law 1278 = .ok (.iconst 1, 1) := by decide +kernel
theorem dL_law_1279 : decode cL_law 1279 = .ok (.iadd, 1) := by decide +kernel
theorem dL_law_1280 : decode cL_law 1280 = .ok (.iaload, 1) := by decide +kernel
theorem dL_law_1281 : decode cL_law 1281 = .ok (.invokevirtual 151, 3) := by decide +kernel
theorem dL_law_1284 : decode cL_law 1284 = .ok (.aload_n 2, 1) := by decide +kernel
theorem dL_law_1285 : decode cL_law 1285 = .ok (.aload_n 0, 1) := by decide +kernel
theorem dL_law_1286 : decode cL_law 1286 = .ok (.iload_n 3, 1) := by decide +kernel
theorem dL_law_1287 : decode cL_law 1287 = .ok (.iconst 1, 1) := by decide +kernel
theorem dL_law_1288 : decode cL_law 1288 = .ok (.iadd, 1) := by decide +kernel
theorem dL_law_1289 : decode cL_law 1289 = .ok (.iaload, 1) := by decide +kernel
theorem dL_law_1290 : decode cL_law 1290 = .ok (.invokevirtual 154, 3) := by decide +kernel
theorem dL_law_1293 : decode cL_law 1293 = .ok (.lcmp, 1) := by decide +kernel
theorem dL_law_1294 : decode cL_law 1294 = .ok (.ifCond .eq 181, 3) := by decide +kernel
theorem dL_law_1297 : decode cL_law 1297 = .ok (.iconst 0, 1) := by decide +kernel
theorem dL_law_1298 : decode cL_law 1298 = .ok (.ireturn, 1) := by decide +kernel
theorem dL_law_1299 : decode cL_law 1299 = .ok (.aload_n 1, 1) := by decide +kernel
theorem dL_law_1300 : decode cL_law 1300 = .ok (.aload_n 0, 1) := by decide +kernel
theorem dL_law_1301 : decode cL_law 1301 = .ok (.iload_n 3, 1) := by decide +kernel
theorem dL_law_1302 : decode cL_law 1302 = .ok (.iconst 1, 1) := by decide +kernel
theorem dL_law_1303 : decode cL_law 1303 = .ok (.iadd, 1) := by decide +kernel
theorem dL_law_1304 : decode cL_law 1304 = .ok (.iaload, 1) := by decide +kernel
theorem dL_law_1305 : decode cL_law 1305 = .ok (.invokevirtual 155, 3) := by decide +kernel
theorem dL_law_1308 : decode cL_law 1308 = .ok (.aload_n 2, 1) := by decide +kernel
theorem dL_law_1309 : decode cL_law 1309 = .ok (.aload_n 0, 1) := by decide +kernel
theorem dL_law_1310 : decode cL_law 1310 = .ok (.iload_n 3, 1) := by decide +kernel
theorem dL_law_1311 : decode cL_law 1311 = .ok (.iconst 1, 1) := by decide +kernel
theorem dL_law_1312 : decode cL_law 1312 = .ok (.iadd, 1) := by decide +kernel
theorem dL_law_1313 : decode cL_law 1313 = .ok (.iaload, 1) := by decide +kernel
theorem dL_law_1314 : decode cL_law 1314 = .ok (.invokevirtual 158, 3) := by decide +kernel
theorem dL_law_1317 : decode cL_law 1317 = .ok (.lcmp, 1) := by decide +kernel
theorem dL_law_1318 : decode cL_law 1318 = .ok (.ifCond .eq 157, 3) := by decide +kernel
theorem dL_law_1321 : decode cL_law 1321 = .ok (.iconst 0, 1) := by decide +kernel
theorem dL_law_1322 : decode cL_law 1322 = .ok (.ireturn, 1) := by decide +kernel
theorem dL_law_1323 : decode cL_law 1323 = .ok (.aload_n 1, 1) := by decide +kernel
theorem dL_law_1324 : decode cL_law 1324 = .ok (.aload_n 0, 1) := by decide +kernel
theorem dL_law_1325 : decode cL_law 1325 = .ok (.iload_n 3, 1) := by decide +kernel
theorem dL_law_1326 : decode cL_law 1326 = .ok (.iconst 1, 1) := by decide +kernel
theorem dL_law_1327 : decode cL_law 1327 = .ok (.iadd, 1) := by decide +kernel
theorem dL_law_1328 : decode cL_law 1328 = .ok (.iaload, 1) := by decide +kernel
theorem dL_law_1329 : decode cL_law 1329 = .ok (.invokevirtual 159, 3) := by decide +kernel
theorem dL_law_1332 : decode cL_law 1332 = .ok (.aload_n 2, 1) := by decide +kernel
theorem dL_law_1333 : decode cL_law 1333 = .ok (.aload_n 0, 1) := by decide +kernel
theorem dL_law_1334 : decode cL_law 1334 = .ok (.iload_n 3, 1) := by decide +kernel
theorem dL_law_1335 : decode cL_law 1335 = .ok (.iconst 1, 1) := by decide +kernel
theorem dL_law_1336 : decode cL_law 1336 = .ok (.iadd, 1) := by decide +kernel
theorem dL_law_1337 : decode cL_law 1337 = .ok (.iaload, 1) := by decide +kernel
theorem dL_law_1338 : decode cL_law 1338 = .ok (.invokevirtual 162, 3) := by decide +kernel
theorem dL_law_1341 : decode cL_law 1341 = .ok (.lcmp, 1) := by decide +kernel
theorem dL_law_1342 : decode cL_law 1342 = .ok (.ifCond .eq 133, 3) := by decide +kernel
theorem dL_law_1345 : decode cL_law 1345 = .ok (.iconst 0, 1) := by decide +kernel
theorem dL_law_1346 : decode cL_law 1346 = .ok (.ireturn, 1) := by decide +kernel
theorem dL_law_1347 : decode cL_law 1347 = .ok (.aload_n 1, 1) := by decide +kernel
theorem dL_law_1348 : decode cL_law 1348 = .ok (.aload_n 0, 1) := by decide +kernel
theorem dL_law_1349 : decode cL_law 1349 = .ok (.iload_n 3, 1) := by decide +kernel
theorem dL_law_1350 : decode cL_law 1350 = .ok (.iconst 1, 1) := by decide +kernel
theorem dL_law_1351 : decode cL_law 1351 = .ok (.iadd, 1) := by decide +kernel
theorem dL_law_1352 : decode cL_law 1352 = .ok (.iaload, 1) := by decide +kernel
theorem dL_law_1353 : decode cL_law 1353 = .ok (.aload_n 0, 1) := by decide +kernel
theorem dL_law_1354 : decode cL_law 1354 = .ok (.iload_n 3, 1) := by decide +kernel
theorem dL_law_1355 : decode cL_law 1355 = .ok (.iconst 2, 1) := by decide +kernel
theorem dL_law_1356 : decode cL_law 1356 = .ok (.iadd, 1) := by decide +kernel
theorem dL_law_1357 : decode cL_law 1357 = .ok (.iaload, 1) := by decide +kernel
theorem dL_law_1358 : decode cL_law 1358 = .ok (.invokevirtual 163, 3) := by decide +kernel
theorem dL_law_1361 : decode cL_law 1361 = .ok (.aload_n 2, 1) := by decide +kernel
theorem dL_law_1362 : decode cL_law 1362 = .ok (.aload_n 0, 1) := by decide +kernel
theorem dL_law_1363 : decode cL_law 1363 = .ok (.iload_n 3, 1) := by decide +kernel
theorem dL_law_1364 : decode cL_law 1364 = .ok (.iconst 1, 1) := by decide +kernel
theorem dL_law_1365 : decode cL_law 1365 = .ok (.iadd, 1) := by decide +kernel
theorem dL_law_1366 : decode cL_law 1366 = .ok (.iaload, 1) := by decide +kernel
theorem dL_law_1367 : decode cL_law 1367 = .ok (.aload_n 0, 1) := by decide +kernel
theorem dL_law_1368 : decode cL_law 1368 = .ok (.iload_n 3, 1) := by decide +kernel
theorem dL_law_1369 : decode cL_law 1369 = .ok (.iconst 2, 1) := by decide +kernel
theorem dL_law_1370 : decode cL_law 1370 = .ok (.iadd, 1) := by decide +kernel
theorem dL_law_1371 : decode cL_law 1371 = .ok (.iaload, 1) := by decide +kernel
theorem dL_law_1372 : decode cL_law 1372 = .ok (.invokevirtual 166, 3) := by decide +kernel
theorem dL_law_1375 : decode cL_law 1375 = .ok (.lcmp, 1) := by decide +kernel
theorem dL_law_1376 : decode cL_law 1376 = .ok (.ifCond .eq 99, 3) := by decide +kernel
theorem dL_law_1379 : decode cL_law 1379 = .ok (.iconst 0, 1) := by decide +kernel
theorem dL_law_1380 : decode cL_law 1380 = .ok (.ireturn, 1) := by decide +kernel
theorem dL_law_1381 : decode cL_law 1381 = .ok (.aload_n 1, 1) := by decide +kernel
theorem dL_law_1382 : decode cL_law 1382 = .ok (.aload_n 0, 1) := by decide +kernel
theorem dL_law_1383 : decode cL_law 1383 = .ok (.iload_n 3, 1) := by decide +kernel
theorem dL_law_1384 : decode cL_law 1384 = .ok (.iconst 1, 1) := by decide +kernel
theorem dL_law_1385 : decode cL_law 1385 = .ok (.iadd, 1) := by decide +kernel
theorem dL_law_1386 : decode cL_law 1386 = .ok (.iaload, 1) := by decide +kernel
theorem dL_law_1387 : decode cL_law 1387 = .ok (.aload_n 0, 1) := by decide +kernel
theorem dL_law_1388 : decode cL_law 1388 = .ok (.iload_n 3, 1) := by decide +kernel
theorem dL_law_1389 : decode cL_law 1389 = .ok (.iconst 2, 1) := by decide +kernel
theorem dL_law_1390 : decode cL_law 1390 = .ok (.iadd, 1) := by decide +kernel
theorem dL_law_1391 : decode cL_law 1391 = .ok (.iaload, 1) := by decide +kernel
theorem dL_law_1392 : decode cL_law 1392 = .ok (.invokevirtual 167, 3) := by decide +kernel
theorem dL_law_1395 : decode cL_law 1395 = .ok (.aload_n 2, 1) := by decide +kernel
theorem dL_law_1396 : decode cL_law 1396 = .ok (.aload_n 0, 1) := by decide +kernel
theorem dL_law_1397 : decode cL_law 1397 = .ok (.iload_n 3, 1) := by decide +kernel
theorem dL_law_1398 : decode cL_law 1398 = .ok (.iconst 1, 1) := by decide +kernel
theorem dL_law_1399 : decode cL_law 1399 = .ok (.iadd, 1) := by decide +kernel
theorem dL_law_1400 : decode cL_law 1400 = .ok (.iaload, 1) := by decide +kernel
theorem dL_law_1401 : decode cL_law 1401 = .ok (.aload_n 0, 1) := by decide +kernel
theorem dL_law_1402 : decode cL_law 1402 = .ok (.iload_n 3, 1) := by decide +kernel
theorem dL_law_1403 : decode cL_law 1403 = .ok (.iconst 2, 1) := by decide +kernel
theorem dL_law_1404 : decode cL_law 1404 = .ok (.iadd, 1) := by decide +kernel
theorem dL_law_1405 : decode cL_law 1405 = .ok (.iaload, 1) := by decide +kernel
theorem dL_law_1406 : decode cL_law 1406 = .ok (.invokevirtual 170, 3) := by decide +kernel
theorem dL_law_1409 : decode cL_law 1409 = .ok (.lcmp, 1) := by decide +kernel
theorem dL_law_1410 : decode cL_law 1410 = .ok (.ifCond .eq 65, 3) := by decide +kernel
theorem dL_law_1413 : decode cL_law 1413 = .ok (.iconst 0, 1) := by decide +kernel
theorem dL_law_1414 : decode cL_law 1414 = .ok (.ireturn, 1) := by decide +kernel
theorem dL_law_1415 : decode cL_law 1415 = .ok (.aload_n 1, 1) := by decide +kernel
theorem dL_law_1416 : decode cL_law 1416 = .ok (.aload_n 0, 1) := by decide +kernel
theorem dL_law_1417 : decode cL_law 1417 = .ok (.iload_n 3, 1) := by decide +kernel
theorem dL_law_1418 : decode cL_law 1418 = .ok (.iconst 1, 1) := by decide +kernel
theorem dL_law_1419 : decode cL_law 1419 = .ok (.iadd, 1) := by decide +kernel
theorem dL_law_1420 : decode cL_law 1420 = .ok (.iaload, 1) := by decide +kernel
theorem dL_law_1421 : decode cL_law 1421 = .ok (.invokevirtual 171, 3) := by decide +kernel
theorem dL_law_1424 : decode cL_law 1424 = .ok (.aload_n 2, 1) := by decide +kernel
theorem dL_law_1425 : decode cL_law 1425 = .ok (.aload_n 0, 1) := by decide +kernel
theorem dL_law_1426 : decode cL_law 1426 = .ok (.iload_n 3, 1) := by decide +kernel
theorem dL_law_1427 : decode cL_law 1427 = .ok (.iconst 1, 1) := by decide +kernel
theorem dL_law_1428 : decode cL_law 1428 = .ok (.iadd, 1) := by decide +kernel
theorem dL_law_1429 : decode cL_law 1429 = .ok (.iaload, 1) := by decide +kernel
theorem dL_law_1430 : decode cL_law 1430 = .ok (.invokevirtual 175, 3) := by decide +kernel
theorem dL_law_1433 : decode cL_law 1433 = .ok (.if_icmp .eq 42, 3) := by decide +kernel
theorem dL_law_1436 : decode cL_law 1436 = .ok (.iconst 0, 1) := by decide +kernel
theorem dL_law_1437 : decode cL_law 1437 = .ok (.ireturn, 1) := by decide +kernel
theorem dL_law_1438 : decode cL_law 1438 = .ok (.aload_n 1, 1) := by decide +kernel
theorem dL_law_1439 : decode cL_law 1439 = .ok (.aload_n 0, 1) := by decide +kernel
theorem dL_law_1440 : decode cL_law 1440 = .ok (.iload_n 3, 1) := by decide +kernel
theorem dL_law_1441 : decode cL_law 1441 = .ok (.iconst 1, 1) := by decide +kernel
theorem dL_law_1442 : decode cL_law 1442 = .ok (.iadd, 1) := by decide +kernel
theorem dL_law_1443 : decode cL_law 1443 = .ok (.iaload, 1) := by decide +kernel
theorem dL_law_1444 : decode cL_law 1444 = .ok (.invokevirtual 176, 3) := by decide +kernel
theorem dL_law_1447 : decode cL_law 1447 = .ok (.aload_n 2, 1) := by decide +kernel
theorem dL_law_1448 : decode cL_law 1448 = .ok (.aload_n 0, 1) := by decide +kernel
theorem dL_law_1449 : decode cL_law 1449 = .ok (.iload_n 3, 1) := by decide +kernel
theorem dL_law_1450 : decode cL_law 1450 = .ok (.iconst 1, 1) := by decide +kernel
theorem dL_law_1451 : decode cL_law 1451 = .ok (.iadd, 1) := by decide +kernel
theorem dL_law_1452 : decode cL_law 1452 = .ok (.iaload, 1) := by decide +kernel
theorem dL_law_1453 : decode cL_law 1453 = .ok (.invokevirtual 179, 3) := by decide +kernel
theorem dL_law_1456 : decode cL_law 1456 = .ok (.lcmp, 1) := by decide +kernel
theorem dL_law_1457 : decode cL_law 1457 = .ok (.ifCond .eq 18, 3) := by decide +kernel
theorem dL_law_1460 : decode cL_law 1460 = .ok (.iconst 0, 1) := by decide +kernel
theorem dL_law_1461 : decode cL_law 1461 = .ok (.ireturn, 1) := by decide +kernel
theorem dL_law_1462 : decode cL_law 1462 = .ok (.aload_n 1, 1) := by decide +kernel
theorem dL_law_1463 : decode cL_law 1463 = .ok (.invokevirtual 180, 3) := by decide +kernel
theorem dL_law_1466 : decode cL_law 1466 = .ok (.aload_n 2, 1) := by decide +kernel
theorem dL_law_1467 : decode cL_law 1467 = .ok (.invokevirtual 183, 3) := by decide +kernel
theorem dL_law_1470 : decode cL_law 1470 = .ok (.if_icmp .eq 5, 3) := by decide +kernel
theorem dL_law_1473 : decode cL_law 1473 = .ok (.iconst 0, 1) := by decide +kernel
theorem dL_law_1474 : decode cL_law 1474 = .ok (.ireturn, 1) := by decide +kernel
theorem dL_law_1475 : decode cL_law 1475 = .ok (.iinc 3 6, 3) := by decide +kernel
theorem dL_law_1478 : decode cL_law 1478 = .ok (.goto (-1460), 3) := by decide +kernel
theorem dL_law_1481 : decode cL_law 1481 = .ok (.iconst 1, 1) := by decide +kernel
theorem dL_law_1482 : decode cL_law 1482 = .ok (.ireturn, 1) := by decide +kernel
def fL_law_1475 (G : jw_G) (r18 : Int → jw_M → Option (Int × jw_M)) (x3 : Int) (M : jw_M) : Option (Int × jw_M) :=
  Option.bind (some (jw_w (x3 + 6))) (fun v5 => r18 v5 M)
set_option maxRecDepth 100000 in
set_option maxHeartbeats 4000000 in
theorem pL_law_1475 (G : jw_G) (nm : String) (hL : jw_gL G ≤ 384) (r18 : Int → jw_M → Option (Int × jw_M)) (hr18 : ∀ (x3 : Int) (hx3 : jw_r x3) (M : jw_M), jw_Rn G (YL_law nm) 32 0 0 true (fun q => q) 18 [(0, jQ G), (1, jR G 0), (2, jR G 127), (3, jI x3)] [] M (r18 x3 M)) : ∀ (x3 : Int) (hx3 : jw_r x3) (M : jw_M), jw_Rn G (YL_law nm) 32 0 0 true (fun q => q) 1475 [(0, jQ G), (1, jR G 0), (2, jR G 127), (3, jI x3)] [] M (fL_law_1475 G r18 x3 M) := by
  intro x3 hx3 M
  unfold fL_law_1475
  refine jw_iincL (pc := 1475) 3 (lv' := (fun y => [(3, y), (0, jQ G), (1, jR G 0), (2, jR G 127)])) dL_law_1475 rfl (Nat.le_of_ble_eq_true rfl) (fun _ => rfl) (fun v5 hv5 => ?_)
  refine jw_goto (pc := 1478) 18 dL_law_1478 (by decide) ?_
  exact jw_few [1, 2, 3, 0] rfl (hr18 v5 hv5 M)
def fL_law_208 (G : jw_G) (r18 : Int → jw_M → Option (Int × jw_M)) (x3 : Int) (M : jw_M) : Option (Int × jw_M) :=
  if 0 ≤ jw_w (x3 + 1) ∧ jw_w (x3 + 1) < jw_Ln G then if 0 ≤ jw_w (x3 + 2) ∧ jw_w (x3 + 2) < jw_Ln G then if 0 ≤ jw_w (x3 + 3) ∧ jw_w (x3 + 3) < jw_Ln G then jw_b2 (fX11_row (jw_xq G (jw_w (x3 + 1))) (jw_xq G (jw_w (x3 + 2))) (jw_xq G (jw_w (x3 + 3))) M) (fun v1 M2 => if 0 ≤ jw_w (x3 + 1) ∧ jw_w (x3 + 1) < jw_Ln G then if 0 ≤ jw_w (x3 + 2) ∧ jw_w (x3 + 2) < jw_Ln G then if 0 ≤ jw_w (x3 + 3) ∧ jw_w (x3 + 3) < jw_Ln G then jw_b2 (fX12_row (jw_xq G (jw_w (x3 + 1))) (jw_xq G (jw_w (x3 + 2))) (jw_xq G (jw_w (x3 + 3))) M2) (fun v3 M4 => if jw_cmp v1 v3 = 0 then (fL_law_1475 G r18 x3 M4) else (some (0, M4))) else none else none else none) else none else none else none
set_option maxRecDepth 100000 in
set_option maxHeartbeats 4000000 in
theorem pL_law_208 (G : jw_G) (nm : String) (hL : jw_gL G ≤ 384) (r18 : Int → jw_M → Option (Int × jw_M)) (hr18 : ∀ (x3 : Int) (hx3 : jw_r x3) (M : jw_M), jw_Rn G (YL_law nm) 32 0 0 true (fun q => q) 18 [(0, jQ G), (1, jR G 0), (2, jR G 127), (3, jI x3)] [] M (r18 x3 M)) : ∀ (x3 : Int) (hx3 : jw_r x3) (M : jw_M), jw_Rn G (YL_law nm) 32 0 0 true (fun q => q) 208 [(0, jQ G), (1, jR G 0), (2, jR G 127), (3, jI x3)] [] M (fL_law_208 G r18 x3 M) := by
  intro x3 hx3 M
  unfold fL_law_208
  refine jw_aloadR (pc := 208) 1 dL_law_208 rfl ?_
  refine jw_aloadQ (pc := 209) 0 dL_law_209 rfl ?_
  refine jw_iload_n (pc := 210) 3 dL_law_210 rfl ?_
  refine jw_iconst (pc := 211) dL_law_211 ?_
  refine jw_iadd (pc := 212) dL_law_212 ?_
  refine jw_qld (pc := 213) dL_law_213 (jw_wr _) ?_
  refine jw_aloadQ (pc := 214) 0 dL_law_214 rfl ?_
  refine jw_iload_n (pc := 215) 3 dL_law_215 rfl ?_
  refine jw_iconst (pc := 216) dL_law_216 ?_
  refine jw_iadd (pc := 217) dL_law_217 ?_
  refine jw_qld (pc := 218) dL_law_218 (jw_wr _) ?_
  refine jw_aloadQ (pc := 219) 0 dL_law_219 rfl ?_
  refine jw_iload_n (pc := 220) 3 dL_law_220 rfl ?_
  refine jw_iconst (pc := 221) dL_law_221 ?_
  refine jw_iadd (pc := 222) dL_law_222 ?_
  refine jw_qld (pc := 223) dL_law_223 (jw_wr _) ?_
  refine jw_callVMl (pc := 224) (As := [jI (jw_xq G (jw_w (x3 + 1))), jI (jw_xq G (jw_w (x3 + 2))), jI (jw_xq G (jw_w (x3 + 3)))]) (st := []) dL_law_224 rfl (Nat.le_of_ble_eq_true rfl) qX11_row jt_406 jt_407 jt_408 rfl rfl (Nat.le_of_ble_eq_true rfl) jv_11 rfl jg_0 jl_0 (by decide) (jw_ho jg_0 (by decide)) (kX11_row G (jw_xq G (jw_w (x3 + 1))) (jw_xq G (jw_w (x3 + 2))) (jw_xq G (jw_w (x3 + 3))) (jw_rI _) (jw_rI _) (jw_rI _) M) (fun v1 M2 hv1 => ?_)
  refine jw_aloadR (pc := 227) 2 dL_law_227 rfl ?_
  refine jw_aloadQ (pc := 228) 0 dL_law_228 rfl ?_
  refine jw_iload_n (pc := 229) 3 dL_law_229 rfl ?_
  refine jw_iconst (pc := 230) dL_law_230 ?_
  refine jw_iadd (pc := 231) dL_law_231 ?_
  refine jw_qld (pc := 232) dL_law_232 (jw_wr _) ?_
  refine jw_aloadQ (pc := 233) 0 dL_law_233 rfl ?_
  refine jw_iload_n (pc := 234) 3 dL_law_234 rfl ?_
  refine jw_iconst (pc := 235) dL_law_235 ?_
  refine jw_iadd (pc := 236) dL_law_236 ?_
  refine jw_qld (pc := 237) dL_law_237 (jw_wr _) ?_
  refine jw_aloadQ (pc := 238) 0 dL_law_238 rfl ?_
  refine jw_iload_n (pc := 239) 3 dL_law_239 rfl ?_
  refine jw_iconst (pc := 240) dL_law_240 ?_
  refine jw_iadd (pc := 241) dL_law_241 ?_
  refine jw_qld (pc := 242) dL_law_242 (jw_wr _) ?_
  refine jw_callVMl (pc := 243) (As := [jI (jw_xq G (jw_w (x3 + 1))), jI (jw_xq G (jw_w (x3 + 2))), jI (jw_xq G (jw_w (x3 + 3)))]) (st := [jL v1]) dL_law_243 rfl (Nat.le_of_ble_eq_true rfl) qX12_row jt_1337 jt_1338 jt_1339 rfl rfl (Nat.le_of_ble_eq_true rfl) jv_12 rfl jg_127 jl_127 (by decide) (jw_ho jg_127 (by decide)) (kX12_row G (jw_xq G (jw_w (x3 + 1))) (jw_xq G (jw_w (x3 + 2))) (jw_xq G (jw_w (x3 + 3))) (jw_rI _) (jw_rI _) (jw_rI _) M2) (fun v3 M4 hv3 => ?_)
  refine jw_lcmp (pc := 246) dL_law_246 hv1 hv3 ?_
  refine jw_if_eq (pc := 247) 1475 dL_law_247 (by decide) (jw_cmpr _ _) (fun _ => ?_) (fun _ => ?_)
  · exact jw_few [0, 1, 2, 3] rfl (pL_law_1475 G nm hL r18 hr18 x3 hx3 M4)
  · refine jw_iconst (pc := 250) dL_law_250 ?_
    exact jw_ret (pc := 251) (v := 0) dL_law_251 (Or.inl rfl) rfl rfl
def fL_law_252 (G : jw_G) (r18 : Int → jw_M → Option (Int × jw_M)) (x3 : Int) (M : jw_M) : Option (Int × jw_M) :=
  if 0 ≤ jw_w (x3 + 1) ∧ jw_w (x3 + 1) < jw_Ln G then if 0 ≤ jw_w (x3 + 2) ∧ jw_w (x3 + 2) < jw_Ln G then if 0 ≤ jw_w (x3 + 3) ∧ jw_w (x3 + 3) < jw_Ln G then jw_b2 (fX11_set (jw_xq G (jw_w (x3 + 1))) (jw_xq G (jw_w (x3 + 2))) (jw_xq G (jw_w (x3 + 3))) M) (fun v7 M8 => if 0 ≤ jw_w (x3 + 1) ∧ jw_w (x3 + 1) < jw_Ln G then if 0 ≤ jw_w (x3 + 2) ∧ jw_w (x3 + 2) < jw_Ln G then if 0 ≤ jw_w (x3 + 3) ∧ jw_w (x3 + 3) < jw_Ln G then jw_b2 (fX12_set (jw_xq G (jw_w (x3 + 1))) (jw_xq G (jw_w (x3 + 2))) (jw_xq G (jw_w (x3 + 3))) M8) (fun v9 M10 => if jw_cmp v7 v9 = 0 then (fL_law_1475 G r18 x3 M10) else (some (0, M10))) else none else none else none) else none else none else none
set_option maxRecDepth 100000 in
set_option maxHeartbeats 4000000 in
theorem pL_law_252 (G : jw_G) (nm : String) (hL : jw_gL G ≤ 384) (r18 : Int → jw_M → Option (Int × jw_M)) (hr18 : ∀ (x3 : Int) (hx3 : jw_r x3) (M : jw_M), jw_Rn G (YL_law nm) 32 0 0 true (fun q => q) 18 [(0, jQ G), (1, jR G 0), (2, jR G 127), (3, jI x3)] [] M (r18 x3 M)) : ∀ (x3 : Int) (hx3 : jw_r x3) (M : jw_M), jw_Rn G (YL_law nm) 32 0 0 true (fun q => q) 252 [(0, jQ G), (1, jR G 0), (2, jR G 127), (3, jI x3)] [] M (fL_law_252 G r18 x3 M) := by
  intro x3 hx3 M
  unfold fL_law_252
  refine jw_aloadR (pc := 252) 1 dL_law_252 rfl ?_
  refine jw_aloadQ (pc := 253) 0 dL_law_253 rfl ?_
  refine jw_iload_n (pc := 254) 3 dL_law_254 rfl ?_
  refine jw_iconst (pc := 255) dL_law_255 ?_
  refine jw_iadd (pc := 256) dL_law_256 ?_
  refine jw_qld (pc := 257) dL_law_257 (jw_wr _) ?_
  refine jw_aloadQ (pc := 258) 0 dL_law_258 rfl ?_
  refine jw_iload_n (pc := 259) 3 dL_law_259 rfl ?_
  refine jw_iconst (pc := 260) dL_law_260 ?_
  refine jw_iadd (pc := 261) dL_law_261 ?_
  refine jw_qld (pc := 262) dL_law_262 (jw_wr _) ?_
  refine jw_aloadQ (pc := 263) 0 dL_law_263 rfl ?_
  refine jw_iload_n (pc := 264) 3 dL_law_264 rfl ?_
  refine jw_iconst (pc := 265) dL_law_265 ?_
  refine jw_iadd (pc := 266) dL_law_266 ?_
  refine jw_qld (pc := 267) dL_law_267 (jw_wr _) ?_
  refine jw_callVMl (pc := 268) (As := [jI (jw_xq G (jw_w (x3 + 1))), jI (jw_xq G (jw_w (x3 + 2))), jI (jw_xq G (jw_w (x3 + 3)))]) (st := []) dL_law_268 rfl (Nat.le_of_ble_eq_true rfl) qX11_set jt_434 jt_435 jt_436 rfl rfl (Nat.le_of_ble_eq_true rfl) jv_11 rfl jg_0 jl_0 (by decide) (jw_ho jg_0 (by decide)) (kX11_set G (jw_xq G (jw_w (x3 + 1))) (jw_xq G (jw_w (x3 + 2))) (jw_xq G (jw_w (x3 + 3))) (jw_rI _) (jw_rI _) (jw_rI _) M) (fun v7 M8 hv7 => ?_)
  refine jw_aloadR (pc := 271) 2 dL_law_271 rfl ?_
  refine jw_aloadQ (pc := 272) 0 dL_law_272 rfl ?_
  refine jw_iload_n (pc := 273) 3 dL_law_273 rfl ?_
  refine jw_iconst (pc := 274) dL_law_274 ?_
  refine jw_iadd (pc := 275) dL_law_275 ?_
  refine jw_qld (pc := 276) dL_law_276 (jw_wr _) ?_
  refine jw_aloadQ (pc := 277) 0 dL_law_277 rfl ?_
  refine jw_iload_n (pc := 278) 3 dL_law_278 rfl ?_
  refine jw_iconst (pc := 279) dL_law_279 ?_
  refine jw_iadd (pc := 280) dL_law_280 ?_
  refine jw_qld (pc := 281) dL_law_281 (jw_wr _) ?_
  refine jw_aloadQ (pc := 282) 0 dL_law_282 rfl ?_
  refine jw_iload_n (pc := 283) 3 dL_law_283 rfl ?_
  refine jw_iconst (pc := 284) dL_law_284 ?_
  refine jw_iadd (pc := 285) dL_law_285 ?_
  refine jw_qld (pc := 286) dL_law_286 (jw_wr _) ?_
  refine jw_callVMl (pc := 287) (As := [jI (jw_xq G (jw_w (x3 + 1))), jI (jw_xq G (jw_w (x3 + 2))), jI (jw_xq G (jw_w (x3 + 3)))]) (st := [jL v7]) dL_law_287 rfl (Nat.le_of_ble_eq_true rfl) qX12_set jt_1355 jt_1356 jt_1357 rfl rfl (Nat.le_of_ble_eq_true rfl) jv_12 rfl jg_127 jl_127 (by decide) (jw_ho jg_127 (by decide)) (kX12_set G (jw_xq G (jw_w (x3 + 1))) (jw_xq G (jw_w (x3 + 2))) (jw_xq G (jw_w (x3 + 3))) (jw_rI _) (jw_rI _) (jw_rI _) M8) (fun v9 M10 hv9 => ?_)
  refine jw_lcmp (pc := 290) dL_law_290 hv7 hv9 ?_
  refine jw_if_eq (pc := 291) 1475 dL_law_291 (by decide) (jw_cmpr _ _) (fun _ => ?_) (fun _ => ?_)
  · exact jw_few [0, 1, 2, 3] rfl (pL_law_1475 G nm hL r18 hr18 x3 hx3 M10)
  · refine jw_iconst (pc := 294) dL_law_294 ?_
    exact jw_ret (pc := 295) (v := 0) dL_law_295 (Or.inl rfl) rfl rfl
def fL_law_296 (G : jw_G) (r18 : Int → jw_M → Option (Int × jw_M)) (x3 : Int) (M : jw_M) : Option (Int × jw_M) :=
  if 0 ≤ jw_w (x3 + 1) ∧ jw_w (x3 + 1) < jw_Ln G then if 0 ≤ jw_w (x3 + 2) ∧ jw_w (x3 + 2) < jw_Ln G then if 0 ≤ jw_w (x3 + 3) ∧ jw_w (x3 + 3) < jw_Ln G then if 0 ≤ jw_w (x3 + 4) ∧ jw_w (x3 + 4) < jw_Ln G then if 0 ≤ jw_w (x3 + 5) ∧ jw_w (x3 + 5) < jw_Ln G then jw_b2 (fX11_copy (jw_xq G (jw_w (x3 + 1))) (jw_xq G (jw_w (x3 + 2))) (jw_xq G (jw_w (x3 + 3))) (jw_xq G (jw_w (x3 + 4))) (jw_xq G (jw_w (x3 + 5))) M) (fun v12 M13 => if 0 ≤ jw_w (x3 + 1) ∧ jw_w (x3 + 1) < jw_Ln G then if 0 ≤ jw_w (x3 + 2) ∧ jw_w (x3 + 2) < jw_Ln G then if 0 ≤ jw_w (x3 + 3) ∧ jw_w (x3 + 3) < jw_Ln G then if 0 ≤ jw_w (x3 + 4) ∧ jw_w (x3 + 4) < jw_Ln G then if 0 ≤ jw_w (x3 + 5) ∧ jw_w (x3 + 5) < jw_Ln G then jw_b2 (fX12_copy (jw_xq G (jw_w (x3 + 1))) (jw_xq G (jw_w (x3 + 2))) (jw_xq G (jw_w (x3 + 3))) (jw_xq G (jw_w (x3 + 4))) (jw_xq G (jw_w (x3 + 5))) M13) (fun v14 M15 => if jw_cmp v12 v14 = 0 then (fL_law_1475 G r18 x3 M15) else (some (0, M15))) else none else none else none else none else none) else none else none else none else none else none
set_option maxRecDepth 100000 in
set_option maxHeartbeats 4000000 in
theorem pL_law_296 (G : jw_G) (nm : String) (hL : jw_gL G ≤ 384) (r18 : Int → jw_M → Option (Int × jw_M)) (hr18 : ∀ (x3 : Int) (hx3 : jw_r x3) (M : jw_M), jw_Rn G (YL_law nm) 32 0 0 true (fun q => q) 18 [(0, jQ G), (1, jR G 0), (2, jR G 127), (3, jI x3)] [] M (r18 x3 M)) : ∀ (x3 : Int) (hx3 : jw_r x3) (M : jw_M), jw_Rn G (YL_law nm) 32 0 0 true (fun q => q) 296 [(0, jQ G), (1, jR G 0), (2, jR G 127), (3, jI x3)] [] M (fL_law_296 G r18 x3 M) := by
  intro x3 hx3 M
  unfold fL_law_296
  refine jw_aloadR (pc := 296) 1 dL_law_296 rfl ?_
  refine jw_aloadQ (pc := 297) 0 dL_law_297 rfl ?_
  refine jw_iload_n (pc := 298) 3 dL_law_298 rfl ?_
  refine jw_iconst (pc := 299) dL_law_299 ?_
  refine jw_iadd (pc := 300) dL_law_300 ?_
  refine jw_qld (pc := 301) dL_law_301 (jw_wr _) ?_
  refine jw_aloadQ (pc := 302) 0 dL_law_302 rfl ?_
  refine jw_iload_n (pc := 303) 3 dL_law_303 rfl ?_
  refine jw_iconst (pc := 304) dL_law_304 ?_
  refine jw_iadd (pc := 305) dL_law_305 ?_
  refine jw_qld (pc := 306) dL_law_306 (jw_wr _) ?_
  refine jw_aloadQ (pc := 307) 0 dL_law_307 rfl ?_
  refine jw_iload_n (pc := 308) 3 dL_law_308 rfl ?_
  refine jw_iconst (pc := 309) dL_law_309 ?_
  refine jw_iadd (pc := 310) dL_law_310 ?_
  refine jw_qld (pc := 311) dL_law_311 (jw_wr _) ?_
  refine jw_aloadQ (pc := 312) 0 dL_law_312 rfl ?_
  refine jw_iload_n (pc := 313) 3 dL_law_313 rfl ?_
  refine jw_iconst (pc := 314) dL_law_314 ?_
  refine jw_iadd (pc := 315) dL_law_315 ?_
  refine jw_qld (pc := 316) dL_law_316 (jw_wr _) ?_
  refine jw_aloadQ (pc := 317) 0 dL_law_317 rfl ?_
  refine jw_iload_n (pc := 318) 3 dL_law_318 rfl ?_
  refine jw_iconst (pc := 319) dL_law_319 ?_
  refine jw_iadd (pc := 320) dL_law_320 ?_
  refine jw_qld (pc := 321) dL_law_321 (jw_wr _) ?_
  refine jw_callVMl (pc := 322) (As := [jI (jw_xq G (jw_w (x3 + 1))), jI (jw_xq G (jw_w (x3 + 2))), jI (jw_xq G (jw_w (x3 + 3))), jI (jw_xq G (jw_w (x3 + 4))), jI (jw_xq G (jw_w (x3 + 5)))]) (st := []) dL_law_322 rfl (Nat.le_of_ble_eq_true rfl) qX11_copy jt_453 jt_454 jt_455 rfl rfl (Nat.le_of_ble_eq_true rfl) jv_11 rfl jg_0 jl_0 (by decide) (jw_ho jg_0 (by decide)) (kX11_copy G (jw_xq G (jw_w (x3 + 1))) (jw_xq G (jw_w (x3 + 2))) (jw_xq G (jw_w (x3 + 3))) (jw_xq G (jw_w (x3 + 4))) (jw_xq G (jw_w (x3 + 5))) (jw_rI _) (jw_rI _) (jw_rI _) (jw_rI _) (jw_rI _) M) (fun v12 M13 hv12 => ?_)
  refine jw_aloadR (pc := 325) 2 dL_law_325 rfl ?_
  refine jw_aloadQ (pc := 326) 0 dL_law_326 rfl ?_
  refine jw_iload_n (pc := 327) 3 dL_law_327 rfl ?_
  refine jw_iconst (pc := 328) dL_law_328 ?_
  refine jw_iadd (pc := 329) dL_law_329 ?_
  refine jw_qld (pc := 330) dL_law_330 (jw_wr _) ?_
  refine jw_aloadQ (pc := 331) 0 dL_law_331 rfl ?_
  refine jw_iload_n (pc := 332) 3 dL_law_332 rfl ?_
  refine jw_iconst (pc := 333) dL_law_333 ?_
  refine jw_iadd (pc := 334) dL_law_334 ?_
  refine jw_qld (pc := 335) dL_law_335 (jw_wr _) ?_
  refine jw_aloadQ (pc := 336) 0 dL_law_336 rfl ?_
  refine jw_iload_n (pc := 337) 3 dL_law_337 rfl ?_
  refine jw_iconst (pc := 338) dL_law_338 ?_
  refine jw_iadd (pc := 339) dL_law_339 ?_
  refine jw_qld (pc := 340) dL_law_340 (jw_wr _) ?_
  refine jw_aloadQ (pc := 341) 0 dL_law_341 rfl ?_
  refine jw_iload_n (pc := 342) 3 dL_law_342 rfl ?_
  refine jw_iconst (pc := 343) dL_law_343 ?_
  refine jw_iadd (pc := 344) dL_law_344 ?_
  refine jw_qld (pc := 345) dL_law_345 (jw_wr _) ?_
  refine jw_aloadQ (pc := 346) 0 dL_law_346 rfl ?_
  refine jw_iload_n (pc := 347) 3 dL_law_347 rfl ?_
  refine jw_iconst (pc := 348) dL_law_348 ?_
  refine jw_iadd (pc := 349) dL_law_349 ?_
  refine jw_qld (pc := 350) dL_law_350 (jw_wr _) ?_
  refine jw_callVMl (pc := 351) (As := [jI (jw_xq G (jw_w (x3 + 1))), jI (jw_xq G (jw_w (x3 + 2))), jI (jw_xq G (jw_w (x3 + 3))), jI (jw_xq G (jw_w (x3 + 4))), jI (jw_xq G (jw_w (x3 + 5)))]) (st := [jL v12]) dL_law_351 rfl (Nat.le_of_ble_eq_true rfl) qX12_copy jt_1359 jt_1360 jt_1361 rfl rfl (Nat.le_of_ble_eq_true rfl) jv_12 rfl jg_127 jl_127 (by decide) (jw_ho jg_127 (by decide)) (kX12_copy G (jw_xq G (jw_w (x3 + 1))) (jw_xq G (jw_w (x3 + 2))) (jw_xq G (jw_w (x3 + 3))) (jw_xq G (jw_w (x3 + 4))) (jw_xq G (jw_w (x3 + 5))) (jw_rI _) (jw_rI _) (jw_rI _) (jw_rI _) (jw_rI _) M13) (fun v14 M15 hv14 => ?_)
  refine jw_lcmp (pc := 354) dL_law_354 hv12 hv14 ?_
  refine jw_if_eq (pc := 355) 1475 dL_law_355 (by decide) (jw_cmpr _ _) (fun _ => ?_) (fun _ => ?_)
  · exact jw_few [0, 1, 2, 3] rfl (pL_law_1475 G nm hL r18 hr18 x3 hx3 M15)
  · refine jw_iconst (pc := 358) dL_law_358 ?_
    exact jw_ret (pc := 359) (v := 0) dL_law_359 (Or.inl rfl) rfl rfl
def fL_law_360 (G : jw_G) (r18 : Int → jw_M → Option (Int × jw_M)) (x3 : Int) (M : jw_M) : Option (Int × jw_M) :=
  if 0 ≤ jw_w (x3 + 1) ∧ jw_w (x3 + 1) < jw_Ln G then jw_b2 (fX11_drop (jw_xq G (jw_w (x3 + 1))) M) (fun v17 M18 => if 0 ≤ jw_w (x3 + 1) ∧ jw_w (x3 + 1) < jw_Ln G then jw_b2 (fX12_drop (jw_xq G (jw_w (x3 + 1))) M18) (fun v19 M20 => if jw_cmp v17 v19 = 0 then (fL_law_1475 G r18 x3 M20) else (some (0, M20))) else none) else none
set_option maxRecDepth 100000 in
set_option maxHeartbeats 4000000 in
theorem pL_law_360 (G : jw_G) (nm : String) (hL : jw_gL G ≤ 384) (r18 : Int → jw_M → Option (Int × jw_M)) (hr18 : ∀ (x3 : Int) (hx3 : jw_r x3) (M : jw_M), jw_Rn G (YL_law nm) 32 0 0 true (fun q => q) 18 [(0, jQ G), (1, jR G 0), (2, jR G 127), (3, jI x3)] [] M (r18 x3 M)) : ∀ (x3 : Int) (hx3 : jw_r x3) (M : jw_M), jw_Rn G (YL_law nm) 32 0 0 true (fun q => q) 360 [(0, jQ G), (1, jR G 0), (2, jR G 127), (3, jI x3)] [] M (fL_law_360 G r18 x3 M) := by
  intro x3 hx3 M
  unfold fL_law_360
  refine jw_aloadR (pc := 360) 1 dL_law_360 rfl ?_
  refine jw_aloadQ (pc := 361) 0 dL_law_361 rfl ?_
  refine jw_iload_n (pc := 362) 3 dL_law_362 rfl ?_
  refine jw_iconst (pc := 363) dL_law_363 ?_
  refine jw_iadd (pc := 364) dL_law_364 ?_
  refine jw_qld (pc := 365) dL_law_365 (jw_wr _) ?_
  refine jw_callVMl (pc := 366) (As := [jI (jw_xq G (jw_w (x3 + 1)))]) (st := []) dL_law_366 rfl (Nat.le_of_ble_eq_true rfl) qX11_drop jt_468 jt_469 jt_470 rfl rfl (Nat.le_of_ble_eq_true rfl) jv_11 rfl jg_0 jl_0 (by decide) (jw_ho jg_0 (by decide)) (kX11_drop G (jw_xq G (jw_w (x3 + 1))) (jw_rI _) M) (fun v17 M18 hv17 => ?_)
  refine jw_aloadR (pc := 369) 2 dL_law_369 rfl ?_
  refine jw_aloadQ (pc := 370) 0 dL_law_370 rfl ?_
  refine jw_iload_n (pc := 371) 3 dL_law_371 rfl ?_
  refine jw_iconst (pc := 372) dL_law_372 ?_
  refine jw_iadd (pc := 373) dL_law_373 ?_
  refine jw_qld (pc := 374) dL_law_374 (jw_wr _) ?_
  refine jw_callVMl (pc := 375) (As := [jI (jw_xq G (jw_w (x3 + 1)))]) (st := [jL v17]) dL_law_375 rfl (Nat.le_of_ble_eq_true rfl) qX12_drop jt_1363 jt_1364 jt_1365 rfl rfl (Nat.le_of_ble_eq_true rfl) jv_12 rfl jg_127 jl_127 (by decide) (jw_ho jg_127 (by decide)) (kX12_drop G (jw_xq G (jw_w (x3 + 1))) (jw_rI _) M18) (fun v19 M20 hv19 => ?_)
  refine jw_lcmp (pc := 378) dL_law_378 hv17 hv19 ?_
  refine jw_if_eq (pc := 379) 1475 dL_law_379 (by decide) (jw_cmpr _ _) (fun _ => ?_) (fun _ => ?_)
  · exact jw_few [0, 1, 2, 3] rfl (pL_law_1475 G nm hL r18 hr18 x3 hx3 M20)
  · refine jw_iconst (pc := 382) dL_law_382 ?_
    exact jw_ret (pc := 383) (v := 0) dL_law_383 (Or.inl rfl) rfl rfl
def fL_law_384 (G : jw_G) (r18 : Int → jw_M → Option (Int × jw_M)) (x3 : Int) (M : jw_M) : Option (Int × jw_M) :=
  if 0 ≤ jw_w (x3 + 1) ∧ jw_w (x3 + 1) < jw_Ln G then if 0 ≤ jw_w (x3 + 2) ∧ jw_w (x3 + 2) < jw_Ln G then if 0 ≤ jw_w (x3 + 3) ∧ jw_w (x3 + 3) < jw_Ln G then jw_b2 (fX11_feed (jw_lor (jw_lshl (jw_xq G (jw_w (x3 + 1))) 32) (jw_land (jw_xq G (jw_w (x3 + 2))) 4294967295)) (jw_xq G (jw_w (x3 + 3))) M) (fun v22 M23 => if 0 ≤ jw_w (x3 + 1) ∧ jw_w (x3 + 1) < jw_Ln G then if 0 ≤ jw_w (x3 + 2) ∧ jw_w (x3 + 2) < jw_Ln G then if 0 ≤ jw_w (x3 + 3) ∧ jw_w (x3 + 3) < jw_Ln G then jw_b2 (fX12_feed (jw_lor (jw_lshl (jw_xq G (jw_w (x3 + 1))) 32) (jw_land (jw_xq G (jw_w (x3 + 2))) 4294967295)) (jw_xq G (jw_w (x3 + 3))) M23) (fun v24 M25 => if jw_cmp v22 v24 = 0 then (fL_law_1475 G r18 x3 M25) else (some (0, M25))) else none else none else none) else none else none else none
set_option maxRecDepth 100000 in
set_option maxHeartbeats 4000000 in
theorem pL_law_384 (G : jw_G) (nm : String) (hL : jw_gL G ≤ 384) (r18 : Int → jw_M → Option (Int × jw_M)) (hr18 : ∀ (x3 : Int) (hx3 : jw_r x3) (M : jw_M), jw_Rn G (YL_law nm) 32 0 0 true (fun q => q) 18 [(0, jQ G), (1, jR G 0), (2, jR G 127), (3, jI x3)] [] M (r18 x3 M)) : ∀ (x3 : Int) (hx3 : jw_r x3) (M : jw_M), jw_Rn G (YL_law nm) 32 0 0 true (fun q => q) 384 [(0, jQ G), (1, jR G 0), (2, jR G 127), (3, jI x3)] [] M (fL_law_384 G r18 x3 M) := by
  intro x3 hx3 M
  unfold fL_law_384
  refine jw_aloadR (pc := 384) 1 dL_law_384 rfl ?_
  refine jw_aloadQ (pc := 385) 0 dL_law_385 rfl ?_
  refine jw_iload_n (pc := 386) 3 dL_law_386 rfl ?_
  refine jw_iconst (pc := 387) dL_law_387 ?_
  refine jw_iadd (pc := 388) dL_law_388 ?_
  refine jw_qld (pc := 389) dL_law_389 (jw_wr _) ?_
  refine jw_i2lr (pc := 390) dL_law_390 (jw_rI _) ?_
  refine jw_bipush (pc := 391) dL_law_391 rfl ?_
  refine jw_lshlr (pc := 393) dL_law_393 ?_
  refine jw_aloadQ (pc := 394) 0 dL_law_394 rfl ?_
  refine jw_iload_n (pc := 395) 3 dL_law_395 rfl ?_
  refine jw_iconst (pc := 396) dL_law_396 ?_
  refine jw_iadd (pc := 397) dL_law_397 ?_
  refine jw_qld (pc := 398) dL_law_398 (jw_wr _) ?_
  refine jw_i2lr (pc := 399) dL_law_399 (jw_rI _) ?_
  refine jw_ldc2 (pc := 400) (n := 4294967295) dL_law_400 jt_1765 (by decide) ?_
  refine jw_landr (pc := 403) dL_law_403 ?_
  refine jw_lorr (pc := 404) dL_law_404 ?_
  refine jw_aloadQ (pc := 405) 0 dL_law_405 rfl ?_
  refine jw_iload_n (pc := 406) 3 dL_law_406 rfl ?_
  refine jw_iconst (pc := 407) dL_law_407 ?_
  refine jw_iadd (pc := 408) dL_law_408 ?_
  refine jw_qld (pc := 409) dL_law_409 (jw_wr _) ?_
  refine jw_callVMl (pc := 410) (As := [jL (jw_lor (jw_lshl (jw_xq G (jw_w (x3 + 1))) 32) (jw_land (jw_xq G (jw_w (x3 + 2))) 4294967295)), jI (jw_xq G (jw_w (x3 + 3)))]) (st := []) dL_law_410 rfl (Nat.le_of_ble_eq_true rfl) qX11_feed jt_476 jt_477 jt_478 rfl rfl (Nat.le_of_ble_eq_true rfl) jv_11 rfl jg_0 jl_0 (by decide) (jw_ho jg_0 (by decide)) (kX11_feed G (jw_lor (jw_lshl (jw_xq G (jw_w (x3 + 1))) 32) (jw_land (jw_xq G (jw_w (x3 + 2))) 4294967295)) (jw_xq G (jw_w (x3 + 3))) (jw_rL _) (jw_rI _) M) (fun v22 M23 hv22 => ?_)
  refine jw_aloadR (pc := 413) 2 dL_law_413 rfl ?_
  refine jw_aloadQ (pc := 414) 0 dL_law_414 rfl ?_
  refine jw_iload_n (pc := 415) 3 dL_law_415 rfl ?_
  refine jw_iconst (pc := 416) dL_law_416 ?_
  refine jw_iadd (pc := 417) dL_law_417 ?_
  refine jw_qld (pc := 418) dL_law_418 (jw_wr _) ?_
  refine jw_i2lr (pc := 419) dL_law_419 (jw_rI _) ?_
  refine jw_bipush (pc := 420) dL_law_420 rfl ?_
  refine jw_lshlr (pc := 422) dL_law_422 ?_
  refine jw_aloadQ (pc := 423) 0 dL_law_423 rfl ?_
  refine jw_iload_n (pc := 424) 3 dL_law_424 rfl ?_
  refine jw_iconst (pc := 425) dL_law_425 ?_
  refine jw_iadd (pc := 426) dL_law_426 ?_
  refine jw_qld (pc := 427) dL_law_427 (jw_wr _) ?_
  refine jw_i2lr (pc := 428) dL_law_428 (jw_rI _) ?_
  refine jw_ldc2 (pc := 429) (n := 4294967295) dL_law_429 jt_1765 (by decide) ?_
  refine jw_landr (pc := 432) dL_law_432 ?_
  refine jw_lorr (pc := 433) dL_law_433 ?_
  refine jw_aloadQ (pc := 434) 0 dL_law_434 rfl ?_
  refine jw_iload_n (pc := 435) 3 dL_law_435 rfl ?_
  refine jw_iconst (pc := 436) dL_law_436 ?_
  refine jw_iadd (pc := 437) dL_law_437 ?_
  refine jw_qld (pc := 438) dL_law_438 (jw_wr _) ?_
  refine jw_callVMl (pc := 439) (As := [jL (jw_lor (jw_lshl (jw_xq G (jw_w (x3 + 1))) 32) (jw_land (jw_xq G (jw_w (x3 + 2))) 4294967295)), jI (jw_xq G (jw_w (x3 + 3)))]) (st := [jL v22]) dL_law_439 rfl (Nat.le_of_ble_eq_true rfl) qX12_feed jt_1367 jt_1368 jt_1369 rfl rfl (Nat.le_of_ble_eq_true rfl) jv_12 rfl jg_127 jl_127 (by decide) (jw_ho jg_127 (by decide)) (kX12_feed G (jw_lor (jw_lshl (jw_xq G (jw_w (x3 + 1))) 32) (jw_land (jw_xq G (jw_w (x3 + 2))) 4294967295)) (jw_xq G (jw_w (x3 + 3))) (jw_rL _) (jw_rI _) M23) (fun v24 M25 hv24 => ?_)
  refine jw_lcmp (pc := 442) dL_law_442 hv22 hv24 ?_
  refine jw_if_eq (pc := 443) 1475 dL_law_443 (by decide) (jw_cmpr _ _) (fun _ => ?_) (fun _ => ?_)
  · exact jw_few [0, 1, 2, 3] rfl (pL_law_1475 G nm hL r18 hr18 x3 hx3 M25)
  · refine jw_iconst (pc := 446) dL_law_446 ?_
    exact jw_ret (pc := 447) (v := 0) dL_law_447 (Or.inl rfl) rfl rfl
def fL_law_448 (G : jw_G) (r18 : Int → jw_M → Option (Int × jw_M)) (x3 : Int) (M : jw_M) : Option (Int × jw_M) :=
  jw_b2 (fX11_pavement  M) (fun v27 M28 => jw_b2 (fX12_pavement  M28) (fun v29 M30 => if jw_cmp v27 v29 = 0 then (fL_law_1475 G r18 x3 M30) else (some (0, M30))))
set_option maxRecDepth 100000 in
set_option maxHeartbeats 4000000 in
theorem pL_law_448 (G : jw_G) (nm : String) (hL : jw_gL G ≤ 384) (r18 : Int → jw_M → Option (Int × jw_M)) (hr18 : ∀ (x3 : Int) (hx3 : jw_r x3) (M : jw_M), jw_Rn G (YL_law nm) 32 0 0 true (fun q => q) 18 [(0, jQ G), (1, jR G 0), (2, jR G 127), (3, jI x3)] [] M (r18 x3 M)) : ∀ (x3 : Int) (hx3 : jw_r x3) (M : jw_M), jw_Rn G (YL_law nm) 32 0 0 true (fun q => q) 448 [(0, jQ G), (1, jR G 0), (2, jR G 127), (3, jI x3)] [] M (fL_law_448 G r18 x3 M) := by
  intro x3 hx3 M
  unfold fL_law_448
  refine jw_aloadR (pc := 448) 1 dL_law_448 rfl ?_
  refine jw_callVMl (pc := 449) (As := []) (st := []) dL_law_449 rfl (Nat.le_of_ble_eq_true rfl) qX11_pavement jt_489 jt_490 jt_491 rfl rfl (Nat.le_of_ble_eq_true rfl) jv_11 rfl jg_0 jl_0 (by decide) (jw_ho jg_0 (by decide)) (kX11_pavement G  M) (fun v27 M28 hv27 => ?_)
  refine jw_aloadR (pc := 452) 2 dL_law_452 rfl ?_
  refine jw_callVMl (pc := 453) (As := []) (st := [jL v27]) dL_law_453 rfl (Nat.le_of_ble_eq_true rfl) qX12_pavement jt_1374 jt_1375 jt_1376 rfl rfl (Nat.le_of_ble_eq_true rfl) jv_12 rfl jg_127 jl_127 (by decide) (jw_ho jg_127 (by decide)) (kX12_pavement G  M28) (fun v29 M30 hv29 => ?_)
  refine jw_lcmp (pc := 456) dL_law_456 hv27 hv29 ?_
  refine jw_if_eq (pc := 457) 1475 dL_law_457 (by decide) (jw_cmpr _ _) (fun _ => ?_) (fun _ => ?_)
  · exact jw_few [0, 1, 2, 3] rfl (pL_law_1475 G nm hL r18 hr18 x3 hx3 M30)
  · refine jw_iconst (pc := 460) dL_law_460 ?_
    exact jw_ret (pc := 461) (v := 0) dL_law_461 (Or.inl rfl) rfl rfl
def fL_law_462 (G : jw_G) (r18 : Int → jw_M → Option (Int × jw_M)) (x3 : Int) (M : jw_M) : Option (Int × jw_M) :=
  Option.bind (fX11_fault  M) (fun v32 => jw_b2 (fX12_fault  M) (fun v33 M34 => if v32 = v33 then (fL_law_1475 G r18 x3 M34) else (some (0, M34))))
set_option maxRecDepth 100000 in
set_option maxHeartbeats 4000000 in
theorem pL_law_462 (G : jw_G) (nm : String) (hL : jw_gL G ≤ 384) (r18 : Int → jw_M → Option (Int × jw_M)) (hr18 : ∀ (x3 : Int) (hx3 : jw_r x3) (M : jw_M), jw_Rn G (YL_law nm) 32 0 0 true (fun q => q) 18 [(0, jQ G), (1, jR G 0), (2, jR G 127), (3, jI x3)] [] M (r18 x3 M)) : ∀ (x3 : Int) (hx3 : jw_r x3) (M : jw_M), jw_Rn G (YL_law nm) 32 0 0 true (fun q => q) 462 [(0, jQ G), (1, jR G 0), (2, jR G 127), (3, jI x3)] [] M (fL_law_462 G r18 x3 M) := by
  intro x3 hx3 M
  unfold fL_law_462
  refine jw_aloadR (pc := 462) 1 dL_law_462 rfl ?_
  refine jw_callVi (pc := 463) (As := []) (st := []) dL_law_463 rfl (Nat.le_of_ble_eq_true rfl) qX11_fault jt_721 jt_722 jt_723 rfl rfl (Nat.le_of_ble_eq_true rfl) jv_11 rfl jg_0 jl_0 (by decide) (jw_ho jg_0 (by decide)) (kX11_fault G  M) (fun v32 hv32 => ?_)
  refine jw_aloadR (pc := 466) 2 dL_law_466 rfl ?_
  refine jw_callVMi (pc := 467) (As := []) (st := [jI v32]) dL_law_467 rfl (Nat.le_of_ble_eq_true rfl) qX12_fault jt_1470 jt_1471 jt_1472 rfl rfl (Nat.le_of_ble_eq_true rfl) jv_12 rfl jg_127 jl_127 (by decide) (jw_ho jg_127 (by decide)) (kX12_fault G  M) (fun v33 M34 hv33 => ?_)
  refine jw_ic_eq (pc := 470) 1475 dL_law_470 (by decide) hv32 hv33 (fun _ => ?_) (fun _ => ?_)
  · exact jw_few [0, 1, 2, 3] rfl (pL_law_1475 G nm hL r18 hr18 x3 hx3 M34)
  · refine jw_iconst (pc := 473) dL_law_473 ?_
    exact jw_ret (pc := 474) (v := 0) dL_law_474 (Or.inl rfl) rfl rfl
def fL_law_475 (G : jw_G) (r18 : Int → jw_M → Option (Int × jw_M)) (x3 : Int) (M : jw_M) : Option (Int × jw_M) :=
  if 0 ≤ jw_w (x3 + 1) ∧ jw_w (x3 + 1) < jw_Ln G then if 0 ≤ jw_w (x3 + 2) ∧ jw_w (x3 + 2) < jw_Ln G then if 0 ≤ jw_w (x3 + 3) ∧ jw_w (x3 + 3) < jw_Ln G then Option.bind (fX11_walk (jw_xq G (jw_w (x3 + 1))) (jw_xq G (jw_w (x3 + 2))) (jw_xq G (jw_w (x3 + 3))) M) (fun v36 => if 0 ≤ jw_w (x3 + 1) ∧ jw_w (x3 + 1) < jw_Ln G then if 0 ≤ jw_w (x3 + 2) ∧ jw_w (x3 + 2) < jw_Ln G then if 0 ≤ jw_w (x3 + 3) ∧ jw_w (x3 + 3) < jw_Ln G then jw_b2 (fX12_walk (jw_xq G (jw_w (x3 + 1))) (jw_xq G (jw_w (x3 + 2))) (jw_xq G (jw_w (x3 + 3))) M) (fun v37 M38 => if jw_cmp v36 v37 = 0 then (fL_law_1475 G r18 x3 M38) else (some (0, M38))) else none else none else none) else none else none else none
set_option maxRecDepth 100000 in
set_option maxHeartbeats 4000000 in
theorem pL_law_475 (G : jw_G) (nm : String) (hL : jw_gL G ≤ 384) (r18 : Int → jw_M → Option (Int × jw_M)) (hr18 : ∀ (x3 : Int) (hx3 : jw_r x3) (M : jw_M), jw_Rn G (YL_law nm) 32 0 0 true (fun q => q) 18 [(0, jQ G), (1, jR G 0), (2, jR G 127), (3, jI x3)] [] M (r18 x3 M)) : ∀ (x3 : Int) (hx3 : jw_r x3) (M : jw_M), jw_Rn G (YL_law nm) 32 0 0 true (fun q => q) 475 [(0, jQ G), (1, jR G 0), (2, jR G 127), (3, jI x3)] [] M (fL_law_475 G r18 x3 M) := by
  intro x3 hx3 M
  unfold fL_law_475
  refine jw_aloadR (pc := 475) 1 dL_law_475 rfl ?_
  refine jw_aloadQ (pc := 476) 0 dL_law_476 rfl ?_
  refine jw_iload_n (pc := 477) 3 dL_law_477 rfl ?_
  refine jw_iconst (pc := 478) dL_law_478 ?_
  refine jw_iadd (pc := 479) dL_law_479 ?_
  refine jw_qld (pc := 480) dL_law_480 (jw_wr _) ?_
  refine jw_aloadQ (pc := 481) 0 dL_law_481 rfl ?_
  refine jw_iload_n (pc := 482) 3 dL_law_482 rfl ?_
  refine jw_iconst (pc := 483) dL_law_483 ?_
  refine jw_iadd (pc := 484) dL_law_484 ?_
  refine jw_qld (pc := 485) dL_law_485 (jw_wr _) ?_
  refine jw_aloadQ (pc := 486) 0 dL_law_486 rfl ?_
  refine jw_iload_n (pc := 487) 3 dL_law_487 rfl ?_
  refine jw_iconst (pc := 488) dL_law_488 ?_
  refine jw_iadd (pc := 489) dL_law_489 ?_
  refine jw_qld (pc := 490) dL_law_490 (jw_wr _) ?_
  refine jw_callVl (pc := 491) (As := [jI (jw_xq G (jw_w (x3 + 1))), jI (jw_xq G (jw_w (x3 + 2))), jI (jw_xq G (jw_w (x3 + 3)))]) (st := []) dL_law_491 rfl (Nat.le_of_ble_eq_true rfl) qX11_walk jt_725 jt_726 jt_727 rfl rfl (Nat.le_of_ble_eq_true rfl) jv_11 rfl jg_0 jl_0 (by decide) (jw_ho jg_0 (by decide)) (kX11_walk G (jw_xq G (jw_w (x3 + 1))) (jw_xq G (jw_w (x3 + 2))) (jw_xq G (jw_w (x3 + 3))) (jw_rI _) (jw_rI _) (jw_rI _) M) (fun v36 hv36 => ?_)
  refine jw_aloadR (pc := 494) 2 dL_law_494 rfl ?_
  refine jw_aloadQ (pc := 495) 0 dL_law_495 rfl ?_
  refine jw_iload_n (pc := 496) 3 dL_law_496 rfl ?_
  refine jw_iconst (pc := 497) dL_law_497 ?_
  refine jw_iadd (pc := 498) dL_law_498 ?_
  refine jw_qld (pc := 499) dL_law_499 (jw_wr _) ?_
  refine jw_aloadQ (pc := 500) 0 dL_law_500 rfl ?_
  refine jw_iload_n (pc := 501) 3 dL_law_501 rfl ?_
  refine jw_iconst (pc := 502) dL_law_502 ?_
  refine jw_iadd (pc := 503) dL_law_503 ?_
  refine jw_qld (pc := 504) dL_law_504 (jw_wr _) ?_
  refine jw_aloadQ (pc := 505) 0 dL_law_505 rfl ?_
  refine jw_iload_n (pc := 506) 3 dL_law_506 rfl ?_
  refine jw_iconst (pc := 507) dL_law_507 ?_
  refine jw_iadd (pc := 508) dL_law_508 ?_
  refine jw_qld (pc := 509) dL_law_509 (jw_wr _) ?_
  refine jw_callVMl (pc := 510) (As := [jI (jw_xq G (jw_w (x3 + 1))), jI (jw_xq G (jw_w (x3 + 2))), jI (jw_xq G (jw_w (x3 + 3)))]) (st := [jL v36]) dL_law_510 rfl (Nat.le_of_ble_eq_true rfl) qX12_walk jt_1474 jt_1475 jt_1476 rfl rfl (Nat.le_of_ble_eq_true rfl) jv_12 rfl jg_127 jl_127 (by decide) (jw_ho jg_127 (by decide)) (kX12_walk G (jw_xq G (jw_w (x3 + 1))) (jw_xq G (jw_w (x3 + 2))) (jw_xq G (jw_w (x3 + 3))) (jw_rI _) (jw_rI _) (jw_rI _) M) (fun v37 M38 hv37 => ?_)
  refine jw_lcmp (pc := 513) dL_law_513 hv36 hv37 ?_
  refine jw_if_eq (pc := 514) 1475 dL_law_514 (by decide) (jw_cmpr _ _) (fun _ => ?_) (fun _ => ?_)
  · exact jw_few [0, 1, 2, 3] rfl (pL_law_1475 G nm hL r18 hr18 x3 hx3 M38)
  · refine jw_iconst (pc := 517) dL_law_517 ?_
    exact jw_ret (pc := 518) (v := 0) dL_law_518 (Or.inl rfl) rfl rfl
def fL_law_519 (G : jw_G) (r18 : Int → jw_M → Option (Int × jw_M)) (x3 : Int) (M : jw_M) : Option (Int × jw_M) :=
  if 0 ≤ jw_w (x3 + 1) ∧ jw_w (x3 + 1) < jw_Ln G then if 0 ≤ jw_w (x3 + 2) ∧ jw_w (x3 + 2) < jw_Ln G then jw_b2 (fX11_goes (jw_xq G (jw_w (x3 + 1))) (jw_xq G (jw_w (x3 + 2))) M) (fun v40 M41 => if 0 ≤ jw_w (x3 + 1) ∧ jw_w (x3 + 1) < jw_Ln G then if 0 ≤ jw_w (x3 + 2) ∧ jw_w (x3 + 2) < jw_Ln G then jw_b2 (fX12_goes (jw_xq G (jw_w (x3 + 1))) (jw_xq G (jw_w (x3 + 2))) M41) (fun v42 M43 => if jw_cmp v40 v42 = 0 then (fL_law_1475 G r18 x3 M43) else (some (0, M43))) else none else none) else none else none
set_option maxRecDepth 100000 in
set_option maxHeartbeats 4000000 in
theorem pL_law_519 (G : jw_G) (nm : String) (hL : jw_gL G ≤ 384) (r18 : Int → jw_M → Option (Int × jw_M)) (hr18 : ∀ (x3 : Int) (hx3 : jw_r x3) (M : jw_M), jw_Rn G (YL_law nm) 32 0 0 true (fun q => q) 18 [(0, jQ G), (1, jR G 0), (2, jR G 127), (3, jI x3)] [] M (r18 x3 M)) : ∀ (x3 : Int) (hx3 : jw_r x3) (M : jw_M), jw_Rn G (YL_law nm) 32 0 0 true (fun q => q) 519 [(0, jQ G), (1, jR G 0), (2, jR G 127), (3, jI x3)] [] M (fL_law_519 G r18 x3 M) := by
  intro x3 hx3 M
  unfold fL_law_519
  refine jw_aloadR (pc := 519) 1 dL_law_519 rfl ?_
  refine jw_aloadQ (pc := 520) 0 dL_law_520 rfl ?_
  refine jw_iload_n (pc := 521) 3 dL_law_521 rfl ?_
  refine jw_iconst (pc := 522) dL_law_522 ?_
  refine jw_iadd (pc := 523) dL_law_523 ?_
  refine jw_qld (pc := 524) dL_law_524 (jw_wr _) ?_
  refine jw_aloadQ (pc := 525) 0 dL_law_525 rfl ?_
  refine jw_iload_n (pc := 526) 3 dL_law_526 rfl ?_
  refine jw_iconst (pc := 527) dL_law_527 ?_
  refine jw_iadd (pc := 528) dL_law_528 ?_
  refine jw_qld (pc := 529) dL_law_529 (jw_wr _) ?_
  refine jw_callVMl (pc := 530) (As := [jI (jw_xq G (jw_w (x3 + 1))), jI (jw_xq G (jw_w (x3 + 2)))]) (st := []) dL_law_530 rfl (Nat.le_of_ble_eq_true rfl) qX11_goes jt_749 jt_750 jt_751 rfl rfl (Nat.le_of_ble_eq_true rfl) jv_11 rfl jg_0 jl_0 (by decide) (jw_ho jg_0 (by decide)) (kX11_goes G (jw_xq G (jw_w (x3 + 1))) (jw_xq G (jw_w (x3 + 2))) (jw_rI _) (jw_rI _) M) (fun v40 M41 hv40 => ?_)
  refine jw_aloadR (pc := 533) 2 dL_law_533 rfl ?_
  refine jw_aloadQ (pc := 534) 0 dL_law_534 rfl ?_
  refine jw_iload_n (pc := 535) 3 dL_law_535 rfl ?_
  refine jw_iconst (pc := 536) dL_law_536 ?_
  refine jw_iadd (pc := 537) dL_law_537 ?_
  refine jw_qld (pc := 538) dL_law_538 (jw_wr _) ?_
  refine jw_aloadQ (pc := 539) 0 dL_law_539 rfl ?_
  refine jw_iload_n (pc := 540) 3 dL_law_540 rfl ?_
  refine jw_iconst (pc := 541) dL_law_541 ?_
  refine jw_iadd (pc := 542) dL_law_542 ?_
  refine jw_qld (pc := 543) dL_law_543 (jw_wr _) ?_
  refine jw_callVMl (pc := 544) (As := [jI (jw_xq G (jw_w (x3 + 1))), jI (jw_xq G (jw_w (x3 + 2)))]) (st := [jL v40]) dL_law_544 rfl (Nat.le_of_ble_eq_true rfl) qX12_goes jt_1483 jt_1484 jt_1485 rfl rfl (Nat.le_of_ble_eq_true rfl) jv_12 rfl jg_127 jl_127 (by decide) (jw_ho jg_127 (by decide)) (kX12_goes G (jw_xq G (jw_w (x3 + 1))) (jw_xq G (jw_w (x3 + 2))) (jw_rI _) (jw_rI _) M41) (fun v42 M43 hv42 => ?_)
  refine jw_lcmp (pc := 547) dL_law_547 hv40 hv42 ?_
  refine jw_if_eq (pc := 548) 1475 dL_law_548 (by decide) (jw_cmpr _ _) (fun _ => ?_) (fun _ => ?_)
  · exact jw_few [0, 1, 2, 3] rfl (pL_law_1475 G nm hL r18 hr18 x3 hx3 M43)
  · refine jw_iconst (pc := 551) dL_law_551 ?_
    exact jw_ret (pc := 552) (v := 0) dL_law_552 (Or.inl rfl) rfl rfl
def fL_law_553 (G : jw_G) (r18 : Int → jw_M → Option (Int × jw_M)) (x3 : Int) (M : jw_M) : Option (Int × jw_M) :=
  if 0 ≤ jw_w (x3 + 1) ∧ jw_w (x3 + 1) < jw_Ln G then if 0 ≤ jw_w (x3 + 2) ∧ jw_w (x3 + 2) < jw_Ln G then Option.bind (fX11_seller (jw_xq G (jw_w (x3 + 1))) (jw_xq G (jw_w (x3 + 2))) M) (fun v45 => if 0 ≤ jw_w (x3 + 1) ∧ jw_w (x3 + 1) < jw_Ln G then if 0 ≤ jw_w (x3 + 2) ∧ jw_w (x3 + 2) < jw_Ln G then jw_b2 (fX12_seller (jw_xq G (jw_w (x3 + 1))) (jw_xq G (jw_w (x3 + 2))) M) (fun v46 M47 => if jw_cmp v45 v46 = 0 then (fL_law_1475 G r18 x3 M47) else (some (0, M47))) else none else none) else none else none
set_option maxRecDepth 100000 in
set_option maxHeartbeats 4000000 in
theorem pL_law_553 (G : jw_G) (nm : String) (hL : jw_gL G ≤ 384) (r18 : Int → jw_M → Option (Int × jw_M)) (hr18 : ∀ (x3 : Int) (hx3 : jw_r x3) (M : jw_M), jw_Rn G (YL_law nm) 32 0 0 true (fun q => q) 18 [(0, jQ G), (1, jR G 0), (2, jR G 127), (3, jI x3)] [] M (r18 x3 M)) : ∀ (x3 : Int) (hx3 : jw_r x3) (M : jw_M), jw_Rn G (YL_law nm) 32 0 0 true (fun q => q) 553 [(0, jQ G), (1, jR G 0), (2, jR G 127), (3, jI x3)] [] M (fL_law_553 G r18 x3 M) := by
  intro x3 hx3 M
  unfold fL_law_553
  refine jw_aloadR (pc := 553) 1 dL_law_553 rfl ?_
  refine jw_aloadQ (pc := 554) 0 dL_law_554 rfl ?_
  refine jw_iload_n (pc := 555) 3 dL_law_555 rfl ?_
  refine jw_iconst (pc := 556) dL_law_556 ?_
  refine jw_iadd (pc := 557) dL_law_557 ?_
  refine jw_qld (pc := 558) dL_law_558 (jw_wr _) ?_
  refine jw_aloadQ (pc := 559) 0 dL_law_559 rfl ?_
  refine jw_iload_n (pc := 560) 3 dL_law_560 rfl ?_
  refine jw_iconst (pc := 561) dL_law_561 ?_
  refine jw_iadd (pc := 562) dL_law_562 ?_
  refine jw_qld (pc := 563) dL_law_563 (jw_wr _) ?_
  refine jw_callVl (pc := 564) (As := [jI (jw_xq G (jw_w (x3 + 1))), jI (jw_xq G (jw_w (x3 + 2)))]) (st := []) dL_law_564 rfl (Nat.le_of_ble_eq_true rfl) qX11_seller jt_757 jt_758 jt_759 rfl rfl (Nat.le_of_ble_eq_true rfl) jv_11 rfl jg_0 jl_0 (by decide) (jw_ho jg_0 (by decide)) (kX11_seller G (jw_xq G (jw_w (x3 + 1))) (jw_xq G (jw_w (x3 + 2))) (jw_rI _) (jw_rI _) M) (fun v45 hv45 => ?_)
  refine jw_aloadR (pc := 567) 2 dL_law_567 rfl ?_
  refine jw_aloadQ (pc := 568) 0 dL_law_568 rfl ?_
  refine jw_iload_n (pc := 569) 3 dL_law_569 rfl ?_
  refine jw_iconst (pc := 570) dL_law_570 ?_
  refine jw_iadd (pc := 571) dL_law_571 ?_
  refine jw_qld (pc := 572) dL_law_572 (jw_wr _) ?_
  refine jw_aloadQ (pc := 573) 0 dL_law_573 rfl ?_
  refine jw_iload_n (pc := 574) 3 dL_law_574 rfl ?_
  refine jw_iconst (pc := 575) dL_law_575 ?_
  refine jw_iadd (pc := 576) dL_law_576 ?_
  refine jw_qld (pc := 577) dL_law_577 (jw_wr _) ?_
  refine jw_callVMl (pc := 578) (As := [jI (jw_xq G (jw_w (x3 + 1))), jI (jw_xq G (jw_w (x3 + 2)))]) (st := [jL v45]) dL_law_578 rfl (Nat.le_of_ble_eq_true rfl) qX12_seller jt_1491 jt_1492 jt_1493 rfl rfl (Nat.le_of_ble_eq_true rfl) jv_12 rfl jg_127 jl_127 (by decide) (jw_ho jg_127 (by decide)) (kX12_seller G (jw_xq G (jw_w (x3 + 1))) (jw_xq G (jw_w (x3 + 2))) (jw_rI _) (jw_rI _) M) (fun v46 M47 hv46 => ?_)
  refine jw_lcmp (pc := 581) dL_law_581 hv45 hv46 ?_
  refine jw_if_eq (pc := 582) 1475 dL_law_582 (by decide) (jw_cmpr _ _) (fun _ => ?_) (fun _ => ?_)
  · exact jw_few [0, 1, 2, 3] rfl (pL_law_1475 G nm hL r18 hr18 x3 hx3 M47)
  · refine jw_iconst (pc := 585) dL_law_585 ?_
    exact jw_ret (pc := 586) (v := 0) dL_law_586 (Or.inl rfl) rfl rfl
def fL_law_587 (G : jw_G) (r18 : Int → jw_M → Option (Int × jw_M)) (x3 : Int) (M : jw_M) : Option (Int × jw_M) :=
  if 0 ≤ jw_w (x3 + 1) ∧ jw_w (x3 + 1) < jw_Ln G then if 0 ≤ jw_w (x3 + 2) ∧ jw_w (x3 + 2) < jw_Ln G then jw_b2 (fX11_watch (jw_xq G (jw_w (x3 + 1))) (jw_xq G (jw_w (x3 + 2))) M) (fun v49 M50 => if 0 ≤ jw_w (x3 + 1) ∧ jw_w (x3 + 1) < jw_Ln G then if 0 ≤ jw_w (x3 + 2) ∧ jw_w (x3 + 2) < jw_Ln G then jw_b2 (fX12_watch (jw_xq G (jw_w (x3 + 1))) (jw_xq G (jw_w (x3 + 2))) M50) (fun v51 M52 => if jw_cmp v49 v51 = 0 then (fL_law_1475 G r18 x3 M52) else (some (0, M52))) else none else none) else none else none
set_option maxRecDepth 100000 in
set_option maxHeartbeats 4000000 in
theorem pL_law_587 (G : jw_G) (nm : String) (hL : jw_gL G ≤ 384) (r18 : Int → jw_M → Option (Int × jw_M)) (hr18 : ∀ (x3 : Int) (hx3 : jw_r x3) (M : jw_M), jw_Rn G (YL_law nm) 32 0 0 true (fun q => q) 18 [(0, jQ G), (1, jR G 0), (2, jR G 127), (3, jI x3)] [] M (r18 x3 M)) : ∀ (x3 : Int) (hx3 : jw_r x3) (M : jw_M), jw_Rn G (YL_law nm) 32 0 0 true (fun q => q) 587 [(0, jQ G), (1, jR G 0), (2, jR G 127), (3, jI x3)] [] M (fL_law_587 G r18 x3 M) := by
  intro x3 hx3 M
  unfold fL_law_587
  refine jw_aloadR (pc := 587) 1 dL_law_587 rfl ?_
  refine jw_aloadQ (pc := 588) 0 dL_law_588 rfl ?_
  refine jw_iload_n (pc := 589) 3 dL_law_589 rfl ?_
  refine jw_iconst (pc := 590) dL_law_590 ?_
  refine jw_iadd (pc := 591) dL_law_591 ?_
  refine jw_qld (pc := 592) dL_law_592 (jw_wr _) ?_
  refine jw_aloadQ (pc := 593) 0 dL_law_593 rfl ?_
  refine jw_iload_n (pc := 594) 3 dL_law_594 rfl ?_
  refine jw_iconst (pc := 595) dL_law_595 ?_
  refine jw_iadd (pc := 596) dL_law_596 ?_
  refine jw_qld (pc := 597) dL_law_597 (jw_wr _) ?_
  refine jw_callVMl (pc := 598) (As := [jI (jw_xq G (jw_w (x3 + 1))), jI (jw_xq G (jw_w (x3 + 2)))]) (st := []) dL_law_598 rfl (Nat.le_of_ble_eq_true rfl) qX11_watch jt_773 jt_774 jt_775 rfl rfl (Nat.le_of_ble_eq_true rfl) jv_11 rfl jg_0 jl_0 (by decide) (jw_ho jg_0 (by decide)) (kX11_watch G (jw_xq G (jw_w (x3 + 1))) (jw_xq G (jw_w (x3 + 2))) (jw_rI _) (jw_rI _) M) (fun v49 M50 hv49 => ?_)
  refine jw_aloadR (pc := 601) 2 dL_law_601 rfl ?_
  refine jw_aloadQ (pc := 602) 0 dL_law_602 rfl ?_
  refine jw_iload_n (pc := 603) 3 dL_law_603 rfl ?_
  refine jw_iconst (pc := 604) dL_law_604 ?_
  refine jw_iadd (pc := 605) dL_law_605 ?_
  refine jw_qld (pc := 606) dL_law_606 (jw_wr _) ?_
  refine jw_aloadQ (pc := 607) 0 dL_law_607 rfl ?_
  refine jw_iload_n (pc := 608) 3 dL_law_608 rfl ?_
  refine jw_iconst (pc := 609) dL_law_609 ?_
  refine jw_iadd (pc := 610) dL_law_610 ?_
  refine jw_qld (pc := 611) dL_law_611 (jw_wr _) ?_
  refine jw_callVMl (pc := 612) (As := [jI (jw_xq G (jw_w (x3 + 1))), jI (jw_xq G (jw_w (x3 + 2)))]) (st := [jL v49]) dL_law_612 rfl (Nat.le_of_ble_eq_true rfl) qX12_watch jt_1500 jt_1501 jt_1502 rfl rfl (Nat.le_of_ble_eq_true rfl) jv_12 rfl jg_127 jl_127 (by decide) (jw_ho jg_127 (by decide)) (kX12_watch G (jw_xq G (jw_w (x3 + 1))) (jw_xq G (jw_w (x3 + 2))) (jw_rI _) (jw_rI _) M50) (fun v51 M52 hv51 => ?_)
  refine jw_lcmp (pc := 615) dL_law_615 hv49 hv51 ?_
  refine jw_if_eq (pc := 616) 1475 dL_law_616 (by decide) (jw_cmpr _ _) (fun _ => ?_) (fun _ => ?_)
  · exact jw_few [0, 1, 2, 3] rfl (pL_law_1475 G nm hL r18 hr18 x3 hx3 M52)
  · refine jw_iconst (pc := 619) dL_law_619 ?_
    exact jw_ret (pc := 620) (v := 0) dL_law_620 (Or.inl rfl) rfl rfl
def fL_law_621 (G : jw_G) (r18 : Int → jw_M → Option (Int × jw_M)) (x3 : Int) (M : jw_M) : Option (Int × jw_M) :=
  if 0 ≤ jw_w (x3 + 1) ∧ jw_w (x3 + 1) < jw_Ln G then if 0 ≤ jw_w (x3 + 2) ∧ jw_w (x3 + 2) < jw_Ln G then if 0 ≤ jw_w (x3 + 3) ∧ jw_w (x3 + 3) < jw_Ln G then jw_b2 (fX11_raid (jw_xq G (jw_w (x3 + 1))) (jw_xq G (jw_w (x3 + 2))) (jw_xq G (jw_w (x3 + 3))) M) (fun v54 M55 => if 0 ≤ jw_w (x3 + 1) ∧ jw_w (x3 + 1) < jw_Ln G then if 0 ≤ jw_w (x3 + 2) ∧ jw_w (x3 + 2) < jw_Ln G then if 0 ≤ jw_w (x3 + 3) ∧ jw_w (x3 + 3) < jw_Ln G then jw_b2 (fX12_raid (jw_xq G (jw_w (x3 + 1))) (jw_xq G (jw_w (x3 + 2))) (jw_xq G (jw_w (x3 + 3))) M55) (fun v56 M57 => if jw_cmp v54 v56 = 0 then (fL_law_1475 G r18 x3 M57) else (some (0, M57))) else none else none else none) else none else none else none
set_option maxRecDepth 100000 in
set_option maxHeartbeats 4000000 in
theorem pL_law_621 (G : jw_G) (nm : String) (hL : jw_gL G ≤ 384) (r18 : Int → jw_M → Option (Int × jw_M)) (hr18 : ∀ (x3 : Int) (hx3 : jw_r x3) (M : jw_M), jw_Rn G (YL_law nm) 32 0 0 true (fun q => q) 18 [(0, jQ G), (1, jR G 0), (2, jR G 127), (3, jI x3)] [] M (r18 x3 M)) : ∀ (x3 : Int) (hx3 : jw_r x3) (M : jw_M), jw_Rn G (YL_law nm) 32 0 0 true (fun q => q) 621 [(0, jQ G), (1, jR G 0), (2, jR G 127), (3, jI x3)] [] M (fL_law_621 G r18 x3 M) := by
  intro x3 hx3 M
  unfold fL_law_621
  refine jw_aloadR (pc := 621) 1 dL_law_621 rfl ?_
  refine jw_aloadQ (pc := 622) 0 dL_law_622 rfl ?_
  refine jw_iload_n (pc := 623) 3 dL_law_623 rfl ?_
  refine jw_iconst (pc := 624) dL_law_624 ?_
  refine jw_iadd (pc := 625) dL_law_625 ?_
  refine jw_qld (pc := 626) dL_law_626 (jw_wr _) ?_
  refine jw_aloadQ (pc := 627) 0 dL_law_627 rfl ?_
  refine jw_iload_n (pc := 628) 3 dL_law_628 rfl ?_
  refine jw_iconst (pc := 629) dL_law_629 ?_
  refine jw_iadd (pc := 630) dL_law_630 ?_
  refine jw_qld (pc := 631) dL_law_631 (jw_wr _) ?_
  refine jw_aloadQ (pc := 632) 0 dL_law_632 rfl ?_
  refine jw_iload_n (pc := 633) 3 dL_law_633 rfl ?_
  refine jw_iconst (pc := 634) dL_law_634 ?_
  refine jw_iadd (pc := 635) dL_law_635 ?_
  refine jw_qld (pc := 636) dL_law_636 (jw_wr _) ?_
  refine jw_callVMl (pc := 637) (As := [jI (jw_xq G (jw_w (x3 + 1))), jI (jw_xq G (jw_w (x3 + 2))), jI (jw_xq G (jw_w (x3 + 3)))]) (st := []) dL_law_637 rfl (Nat.le_of_ble_eq_true rfl) qX11_raid jt_781 jt_782 jt_783 rfl rfl (Nat.le_of_ble_eq_true rfl) jv_11 rfl jg_0 jl_0 (by decide) (jw_ho jg_0 (by decide)) (kX11_raid G (jw_xq G (jw_w (x3 + 1))) (jw_xq G (jw_w (x3 + 2))) (jw_xq G (jw_w (x3 + 3))) (jw_rI _) (jw_rI _) (jw_rI _) M) (fun v54 M55 hv54 => ?_)
  refine jw_aloadR (pc := 640) 2 dL_law_640 rfl ?_
  refine jw_aloadQ (pc := 641) 0 dL_law_641 rfl ?_
  refine jw_iload_n (pc := 642) 3 dL_law_642 rfl ?_
  refine jw_iconst (pc := 643) dL_law_643 ?_
  refine jw_iadd (pc := 644) dL_law_644 ?_
  refine jw_qld (pc := 645) dL_law_645 (jw_wr _) ?_
  refine jw_aloadQ (pc := 646) 0 dL_law_646 rfl ?_
  refine jw_iload_n (pc := 647) 3 dL_law_647 rfl ?_
  refine jw_iconst (pc := 648) dL_law_648 ?_
  refine jw_iadd (pc := 649) dL_law_649 ?_
  refine jw_qld (pc := 650) dL_law_650 (jw_wr _) ?_
  refine jw_aloadQ (pc := 651) 0 dL_law_651 rfl ?_
  refine jw_iload_n (pc := 652) 3 dL_law_652 rfl ?_
  refine jw_iconst (pc := 653) dL_law_653 ?_
  refine jw_iadd (pc := 654) dL_law_654 ?_
  refine jw_qld (pc := 655) dL_law_655 (jw_wr _) ?_
  refine jw_callVMl (pc := 656) (As := [jI (jw_xq G (jw_w (x3 + 1))), jI (jw_xq G (jw_w (x3 + 2))), jI (jw_xq G (jw_w (x3 + 3)))]) (st := [jL v54]) dL_law_656 rfl (Nat.le_of_ble_eq_true rfl) qX12_raid jt_1508 jt_1509 jt_1510 rfl rfl (Nat.le_of_ble_eq_true rfl) jv_12 rfl jg_127 jl_127 (by decide) (jw_ho jg_127 (by decide)) (kX12_raid G (jw_xq G (jw_w (x3 + 1))) (jw_xq G (jw_w (x3 + 2))) (jw_xq G (jw_w (x3 + 3))) (jw_rI _) (jw_rI _) (jw_rI _) M55) (fun v56 M57 hv56 => ?_)
  refine jw_lcmp (pc := 659) dL_law_659 hv54 hv56 ?_
  refine jw_if_eq (pc := 660) 1475 dL_law_660 (by decide) (jw_cmpr _ _) (fun _ => ?_) (fun _ => ?_)
  · exact jw_few [0, 1, 2, 3] rfl (pL_law_1475 G nm hL r18 hr18 x3 hx3 M57)
  · refine jw_iconst (pc := 663) dL_law_663 ?_
    exact jw_ret (pc := 664) (v := 0) dL_law_664 (Or.inl rfl) rfl rfl
def fL_law_665 (G : jw_G) (r18 : Int → jw_M → Option (Int × jw_M)) (x3 : Int) (M : jw_M) : Option (Int × jw_M) :=
  if 0 ≤ jw_w (x3 + 1) ∧ jw_w (x3 + 1) < jw_Ln G then if 0 ≤ jw_w (x3 + 2) ∧ jw_w (x3 + 2) < jw_Ln G then if 0 ≤ jw_w (x3 + 3) ∧ jw_w (x3 + 3) < jw_Ln G then if 0 ≤ jw_w (x3 + 4) ∧ jw_w (x3 + 4) < jw_Ln G then jw_b2 (fX11_two (jw_xq G (jw_w (x3 + 1))) (jw_xq G (jw_w (x3 + 2))) (jw_xq G (jw_w (x3 + 3))) (jw_xq G (jw_w (x3 + 4))) M) (fun v59 M60 => if 0 ≤ jw_w (x3 + 1) ∧ jw_w (x3 + 1) < jw_Ln G then if 0 ≤ jw_w (x3 + 2) ∧ jw_w (x3 + 2) < jw_Ln G then if 0 ≤ jw_w (x3 + 3) ∧ jw_w (x3 + 3) < jw_Ln G then if 0 ≤ jw_w (x3 + 4) ∧ jw_w (x3 + 4) < jw_Ln G then jw_b2 (fX12_two (jw_xq G (jw_w (x3 + 1))) (jw_xq G (jw_w (x3 + 2))) (jw_xq G (jw_w (x3 + 3))) (jw_xq G (jw_w (x3 + 4))) M60) (fun v61 M62 => if jw_cmp v59 v61 = 0 then (fL_law_1475 G r18 x3 M62) else (some (0, M62))) else none else none else none else none) else none else none else none else none
set_option maxRecDepth 100000 in
set_option maxHeartbeats 4000000 in
theorem pL_law_665 (G : jw_G) (nm : String) (hL : jw_gL G ≤ 384) (r18 : Int → jw_M → Option (Int × jw_M)) (hr18 : ∀ (x3 : Int) (hx3 : jw_r x3) (M : jw_M), jw_Rn G (YL_law nm) 32 0 0 true (fun q => q) 18 [(0, jQ G), (1, jR G 0), (2, jR G 127), (3, jI x3)] [] M (r18 x3 M)) : ∀ (x3 : Int) (hx3 : jw_r x3) (M : jw_M), jw_Rn G (YL_law nm) 32 0 0 true (fun q => q) 665 [(0, jQ G), (1, jR G 0), (2, jR G 127), (3, jI x3)] [] M (fL_law_665 G r18 x3 M) := by
  intro x3 hx3 M
  unfold fL_law_665
  refine jw_aloadR (pc := 665) 1 dL_law_665 rfl ?_
  refine jw_aloadQ (pc := 666) 0 dL_law_666 rfl ?_
  refine jw_iload_n (pc := 667) 3 dL_law_667 rfl ?_
  refine jw_iconst (pc := 668) dL_law_668 ?_
  refine jw_iadd (pc := 669) dL_law_669 ?_
  refine jw_qld (pc := 670) dL_law_670 (jw_wr _) ?_
  refine jw_aloadQ (pc := 671) 0 dL_law_671 rfl ?_
  refine jw_iload_n (pc := 672) 3 dL_law_672 rfl ?_
  refine jw_iconst (pc := 673) dL_law_673 ?_
  refine jw_iadd (pc := 674) dL_law_674 ?_
  refine jw_qld (pc := 675) dL_law_675 (jw_wr _) ?_
  refine jw_aloadQ (pc := 676) 0 dL_law_676 rfl ?_
  refine jw_iload_n (pc := 677) 3 dL_law_677 rfl ?_
  refine jw_iconst (pc := 678) dL_law_678 ?_
  refine jw_iadd (pc := 679) dL_law_679 ?_
  refine jw_qld (pc := 680) dL_law_680 (jw_wr _) ?_
  refine jw_aloadQ (pc := 681) 0 dL_law_681 rfl ?_
  refine jw_iload_n (pc := 682) 3 dL_law_682 rfl ?_
  refine jw_iconst (pc := 683) dL_law_683 ?_
  refine jw_iadd (pc := 684) dL_law_684 ?_
  refine jw_qld (pc := 685) dL_law_685 (jw_wr _) ?_
  refine jw_callVMl (pc := 686) (As := [jI (jw_xq G (jw_w (x3 + 1))), jI (jw_xq G (jw_w (x3 + 2))), jI (jw_xq G (jw_w (x3 + 3))), jI (jw_xq G (jw_w (x3 + 4)))]) (st := []) dL_law_686 rfl (Nat.le_of_ble_eq_true rfl) qX11_two jt_837 jt_838 jt_839 rfl rfl (Nat.le_of_ble_eq_true rfl) jv_11 rfl jg_0 jl_0 (by decide) (jw_ho jg_0 (by decide)) (kX11_two G (jw_xq G (jw_w (x3 + 1))) (jw_xq G (jw_w (x3 + 2))) (jw_xq G (jw_w (x3 + 3))) (jw_xq G (jw_w (x3 + 4))) (jw_rI _) (jw_rI _) (jw_rI _) (jw_rI _) M) (fun v59 M60 hv59 => ?_)
  refine jw_aloadR (pc := 689) 2 dL_law_689 rfl ?_
  refine jw_aloadQ (pc := 690) 0 dL_law_690 rfl ?_
  refine jw_iload_n (pc := 691) 3 dL_law_691 rfl ?_
  refine jw_iconst (pc := 692) dL_law_692 ?_
  refine jw_iadd (pc := 693) dL_law_693 ?_
  refine jw_qld (pc := 694) dL_law_694 (jw_wr _) ?_
  refine jw_aloadQ (pc := 695) 0 dL_law_695 rfl ?_
  refine jw_iload_n (pc := 696) 3 dL_law_696 rfl ?_
  refine jw_iconst (pc := 697) dL_law_697 ?_
  refine jw_iadd (pc := 698) dL_law_698 ?_
  refine jw_qld (pc := 699) dL_law_699 (jw_wr _) ?_
  refine jw_aloadQ (pc := 700) 0 dL_law_700 rfl ?_
  refine jw_iload_n (pc := 701) 3 dL_law_701 rfl ?_
  refine jw_iconst (pc := 702) dL_law_702 ?_
  refine jw_iadd (pc := 703) dL_law_703 ?_
  refine jw_qld (pc := 704) dL_law_704 (jw_wr _) ?_
  refine jw_aloadQ (pc := 705) 0 dL_law_705 rfl ?_
  refine jw_iload_n (pc := 706) 3 dL_law_706 rfl ?_
  refine jw_iconst (pc := 707) dL_law_707 ?_
  refine jw_iadd (pc := 708) dL_law_708 ?_
  refine jw_qld (pc := 709) dL_law_709 (jw_wr _) ?_
  refine jw_callVMl (pc := 710) (As := [jI (jw_xq G (jw_w (x3 + 1))), jI (jw_xq G (jw_w (x3 + 2))), jI (jw_xq G (jw_w (x3 + 3))), jI (jw_xq G (jw_w (x3 + 4)))]) (st := [jL v59]) dL_law_710 rfl (Nat.le_of_ble_eq_true rfl) qX12_two jt_1538 jt_1539 jt_1540 rfl rfl (Nat.le_of_ble_eq_true rfl) jv_12 rfl jg_127 jl_127 (by decide) (jw_ho jg_127 (by decide)) (kX12_two G (jw_xq G (jw_w (x3 + 1))) (jw_xq G (jw_w (x3 + 2))) (jw_xq G (jw_w (x3 + 3))) (jw_xq G (jw_w (x3 + 4))) (jw_rI _) (jw_rI _) (jw_rI _) (jw_rI _) M60) (fun v61 M62 hv61 => ?_)
  refine jw_lcmp (pc := 713) dL_law_713 hv59 hv61 ?_
  refine jw_if_eq (pc := 714) 1475 dL_law_714 (by decide) (jw_cmpr _ _) (fun _ => ?_) (fun _ => ?_)
  · exact jw_few [0, 1, 2, 3] rfl (pL_law_1475 G nm hL r18 hr18 x3 hx3 M62)
  · refine jw_iconst (pc := 717) dL_law_717 ?_
    exact jw_ret (pc := 718) (v := 0) dL_law_718 (Or.inl rfl) rfl rfl
def fL_law_719 (G : jw_G) (r18 : Int → jw_M → Option (Int × jw_M)) (x3 : Int) (M : jw_M) : Option (Int × jw_M) :=
  if 0 ≤ jw_w (x3 + 1) ∧ jw_w (x3 + 1) < jw_Ln G then if 0 ≤ jw_w (x3 + 2) ∧ jw_w (x3 + 2) < jw_Ln G then Option.bind (fX11_after (jw_xq G (jw_w (x3 + 1))) (jw_xq G (jw_w (x3 + 2))) M) (fun v64 => if 0 ≤ jw_w (x3 + 1) ∧ jw_w (x3 + 1) < jw_Ln G then if 0 ≤ jw_w (x3 + 2) ∧ jw_w (x3 + 2) < jw_Ln G then jw_b2 (fX12_after (jw_xq G (jw_w (x3 + 1))) (jw_xq G (jw_w (x3 + 2))) M) (fun v65 M66 => if jw_cmp v64 v65 = 0 then (fL_law_1475 G r18 x3 M66) else (some (0, M66))) else none else none) else none else none
set_option maxRecDepth 100000 in
set_option maxHeartbeats 4000000 in
theorem pL_law_719 (G : jw_G) (nm : String) (hL : jw_gL G ≤ 384) (r18 : Int → jw_M → Option (Int × jw_M)) (hr18 : ∀ (x3 : Int) (hx3 : jw_r x3) (M : jw_M), jw_Rn G (YL_law nm) 32 0 0 true (fun q => q) 18 [(0, jQ G), (1, jR G 0), (2, jR G 127), (3, jI x3)] [] M (r18 x3 M)) : ∀ (x3 : Int) (hx3 : jw_r x3) (M : jw_M), jw_Rn G (YL_law nm) 32 0 0 true (fun q => q) 719 [(0, jQ G), (1, jR G 0), (2, jR G 127), (3, jI x3)] [] M (fL_law_719 G r18 x3 M) := by
  intro x3 hx3 M
  unfold fL_law_719
  refine jw_aloadR (pc := 719) 1 dL_law_719 rfl ?_
  refine jw_aloadQ (pc := 720) 0 dL_law_720 rfl ?_
  refine jw_iload_n (pc := 721) 3 dL_law_721 rfl ?_
  refine jw_iconst (pc := 722) dL_law_722 ?_
  refine jw_iadd (pc := 723) dL_law_723 ?_
  refine jw_qld (pc := 724) dL_law_724 (jw_wr _) ?_
  refine jw_aloadQ (pc := 725) 0 dL_law_725 rfl ?_
  refine jw_iload_n (pc := 726) 3 dL_law_726 rfl ?_
  refine jw_iconst (pc := 727) dL_law_727 ?_
  refine jw_iadd (pc := 728) dL_law_728 ?_
  refine jw_qld (pc := 729) dL_law_729 (jw_wr _) ?_
  refine jw_callVl (pc := 730) (As := [jI (jw_xq G (jw_w (x3 + 1))), jI (jw_xq G (jw_w (x3 + 2)))]) (st := []) dL_law_730 rfl (Nat.le_of_ble_eq_true rfl) qX11_after jt_841 jt_842 jt_843 rfl rfl (Nat.le_of_ble_eq_true rfl) jv_11 rfl jg_0 jl_0 (by decide) (jw_ho jg_0 (by decide)) (kX11_after G (jw_xq G (jw_w (x3 + 1))) (jw_xq G (jw_w (x3 + 2))) (jw_rI _) (jw_rI _) M) (fun v64 hv64 => ?_)
  refine jw_aloadR (pc := 733) 2 dL_law_733 rfl ?_
  refine jw_aloadQ (pc := 734) 0 dL_law_734 rfl ?_
  refine jw_iload_n (pc := 735) 3 dL_law_735 rfl ?_
  refine jw_iconst (pc := 736) dL_law_736 ?_
  refine jw_iadd (pc := 737) dL_law_737 ?_
  refine jw_qld (pc := 738) dL_law_738 (jw_wr _) ?_
  refine jw_aloadQ (pc := 739) 0 dL_law_739 rfl ?_
  refine jw_iload_n (pc := 740) 3 dL_law_740 rfl ?_
  refine jw_iconst (pc := 741) dL_law_741 ?_
  refine jw_iadd (pc := 742) dL_law_742 ?_
  refine jw_qld (pc := 743) dL_law_743 (jw_wr _) ?_
  refine jw_callVMl (pc := 744) (As := [jI (jw_xq G (jw_w (x3 + 1))), jI (jw_xq G (jw_w (x3 + 2)))]) (st := [jL v64]) dL_law_744 rfl (Nat.le_of_ble_eq_true rfl) qX12_after jt_1542 jt_1543 jt_1544 rfl rfl (Nat.le_of_ble_eq_true rfl) jv_12 rfl jg_127 jl_127 (by decide) (jw_ho jg_127 (by decide)) (kX12_after G (jw_xq G (jw_w (x3 + 1))) (jw_xq G (jw_w (x3 + 2))) (jw_rI _) (jw_rI _) M) (fun v65 M66 hv65 => ?_)
  refine jw_lcmp (pc := 747) dL_law_747 hv64 hv65 ?_
  refine jw_if_eq (pc := 748) 1475 dL_law_748 (by decide) (jw_cmpr _ _) (fun _ => ?_) (fun _ => ?_)
  · exact jw_few [0, 1, 2, 3] rfl (pL_law_1475 G nm hL r18 hr18 x3 hx3 M66)
  · refine jw_iconst (pc := 751) dL_law_751 ?_
    exact jw_ret (pc := 752) (v := 0) dL_law_752 (Or.inl rfl) rfl rfl
def fL_law_753 (G : jw_G) (r18 : Int → jw_M → Option (Int × jw_M)) (x3 : Int) (M : jw_M) : Option (Int × jw_M) :=
  if 0 ≤ jw_w (x3 + 1) ∧ jw_w (x3 + 1) < jw_Ln G then Option.bind (fX11_nothing (jw_xq G (jw_w (x3 + 1))) M) (fun v68 => if 0 ≤ jw_w (x3 + 1) ∧ jw_w (x3 + 1) < jw_Ln G then jw_b2 (fX12_nothing (jw_xq G (jw_w (x3 + 1))) M) (fun v69 M70 => if jw_cmp v68 v69 = 0 then (fL_law_1475 G r18 x3 M70) else (some (0, M70))) else none) else none
set_option maxRecDepth 100000 in
set_option maxHeartbeats 4000000 in
theorem pL_law_753 (G : jw_G) (nm : String) (hL : jw_gL G ≤ 384) (r18 : Int → jw_M → Option (Int × jw_M)) (hr18 : ∀ (x3 : Int) (hx3 : jw_r x3) (M : jw_M), jw_Rn G (YL_law nm) 32 0 0 true (fun q => q) 18 [(0, jQ G), (1, jR G 0), (2, jR G 127), (3, jI x3)] [] M (r18 x3 M)) : ∀ (x3 : Int) (hx3 : jw_r x3) (M : jw_M), jw_Rn G (YL_law nm) 32 0 0 true (fun q => q) 753 [(0, jQ G), (1, jR G 0), (2, jR G 127), (3, jI x3)] [] M (fL_law_753 G r18 x3 M) := by
  intro x3 hx3 M
  unfold fL_law_753
  refine jw_aloadR (pc := 753) 1 dL_law_753 rfl ?_
  refine jw_aloadQ (pc := 754) 0 dL_law_754 rfl ?_
  refine jw_iload_n (pc := 755) 3 dL_law_755 rfl ?_
  refine jw_iconst (pc := 756) dL_law_756 ?_
  refine jw_iadd (pc := 757) dL_law_757 ?_
  refine jw_qld (pc := 758) dL_law_758 (jw_wr _) ?_
  refine jw_callVl (pc := 759) (As := [jI (jw_xq G (jw_w (x3 + 1)))]) (st := []) dL_law_759 rfl (Nat.le_of_ble_eq_true rfl) qX11_nothing jt_859 jt_860 jt_861 rfl rfl (Nat.le_of_ble_eq_true rfl) jv_11 rfl jg_0 jl_0 (by decide) (jw_ho jg_0 (by decide)) (kX11_nothing G (jw_xq G (jw_w (x3 + 1))) (jw_rI _) M) (fun v68 hv68 => ?_)
  refine jw_aloadR (pc := 762) 2 dL_law_762 rfl ?_
  refine jw_aloadQ (pc := 763) 0 dL_law_763 rfl ?_
  refine jw_iload_n (pc := 764) 3 dL_law_764 rfl ?_
  refine jw_iconst (pc := 765) dL_law_765 ?_
  refine jw_iadd (pc := 766) dL_law_766 ?_
  refine jw_qld (pc := 767) dL_law_767 (jw_wr _) ?_
  refine jw_callVMl (pc := 768) (As := [jI (jw_xq G (jw_w (x3 + 1)))]) (st := [jL v68]) dL_law_768 rfl (Nat.le_of_ble_eq_true rfl) qX12_nothing jt_1559 jt_1560 jt_1561 rfl rfl (Nat.le_of_ble_eq_true rfl) jv_12 rfl jg_127 jl_127 (by decide) (jw_ho jg_127 (by decide)) (kX12_nothing G (jw_xq G (jw_w (x3 + 1))) (jw_rI _) M) (fun v69 M70 hv69 => ?_)
  refine jw_lcmp (pc := 771) dL_law_771 hv68 hv69 ?_
  refine jw_if_eq (pc := 772) 1475 dL_law_772 (by decide) (jw_cmpr _ _) (fun _ => ?_) (fun _ => ?_)
  · exact jw_few [0, 1, 2, 3] rfl (pL_law_1475 G nm hL r18 hr18 x3 hx3 M70)
  · refine jw_iconst (pc := 775) dL_law_775 ?_
    exact jw_ret (pc := 776) (v := 0) dL_law_776 (Or.inl rfl) rfl rfl
def fL_law_777 (G : jw_G) (r18 : Int → jw_M → Option (Int × jw_M)) (x3 : Int) (M : jw_M) : Option (Int × jw_M) :=
  jw_b2 (fX11_keep  M) (fun v72 M73 => jw_b2 (fX12_keep  M73) (fun v74 M75 => if jw_cmp v72 v74 = 0 then (fL_law_1475 G r18 x3 M75) else (some (0, M75))))
set_option maxRecDepth 100000 in
set_option maxHeartbeats 4000000 in
theorem pL_law_777 (G : jw_G) (nm : String) (hL : jw_gL G ≤ 384) (r18 : Int → jw_M → Option (Int × jw_M)) (hr18 : ∀ (x3 : Int) (hx3 : jw_r x3) (M : jw_M), jw_Rn G (YL_law nm) 32 0 0 true (fun q => q) 18 [(0, jQ G), (1, jR G 0), (2, jR G 127), (3, jI x3)] [] M (r18 x3 M)) : ∀ (x3 : Int) (hx3 : jw_r x3) (M : jw_M), jw_Rn G (YL_law nm) 32 0 0 true (fun q => q) 777 [(0, jQ G), (1, jR G 0), (2, jR G 127), (3, jI x3)] [] M (fL_law_777 G r18 x3 M) := by
  intro x3 hx3 M
  unfold fL_law_777
  refine jw_aloadR (pc := 777) 1 dL_law_777 rfl ?_
  refine jw_callVMl (pc := 778) (As := []) (st := []) dL_law_778 rfl (Nat.le_of_ble_eq_true rfl) qX11_keep jt_863 jt_864 jt_865 rfl rfl (Nat.le_of_ble_eq_true rfl) jv_11 rfl jg_0 jl_0 (by decide) (jw_ho jg_0 (by decide)) (kX11_keep G  M) (fun v72 M73 hv72 => ?_)
  refine jw_aloadR (pc := 781) 2 dL_law_781 rfl ?_
  refine jw_callVMl (pc := 782) (As := []) (st := [jL v72]) dL_law_782 rfl (Nat.le_of_ble_eq_true rfl) qX12_keep jt_1563 jt_1564 jt_1565 rfl rfl (Nat.le_of_ble_eq_true rfl) jv_12 rfl jg_127 jl_127 (by decide) (jw_ho jg_127 (by decide)) (kX12_keep G  M73) (fun v74 M75 hv74 => ?_)
  refine jw_lcmp (pc := 785) dL_law_785 hv72 hv74 ?_
  refine jw_if_eq (pc := 786) 1475 dL_law_786 (by decide) (jw_cmpr _ _) (fun _ => ?_) (fun _ => ?_)
  · exact jw_few [0, 1, 2, 3] rfl (pL_law_1475 G nm hL r18 hr18 x3 hx3 M75)
  · refine jw_iconst (pc := 789) dL_law_789 ?_
    exact jw_ret (pc := 790) (v := 0) dL_law_790 (Or.inl rfl) rfl rfl
def fL_law_791 (G : jw_G) (r18 : Int → jw_M → Option (Int × jw_M)) (x3 : Int) (M : jw_M) : Option (Int × jw_M) :=
  if 0 ≤ jw_w (x3 + 1) ∧ jw_w (x3 + 1) < jw_Ln G then if 0 ≤ jw_w (x3 + 2) ∧ jw_w (x3 + 2) < jw_Ln G then Option.bind (fX11_feared (jw_xq G (jw_w (x3 + 1))) (jw_xq G (jw_w (x3 + 2))) M) (fun v77 => if 0 ≤ jw_w (x3 + 1) ∧ jw_w (x3 + 1) < jw_Ln G then if 0 ≤ jw_w (x3 + 2) ∧ jw_w (x3 + 2) < jw_Ln G then jw_b2 (fX12_feared (jw_xq G (jw_w (x3 + 1))) (jw_xq G (jw_w (x3 + 2))) M) (fun v78 M79 => if jw_cmp v77 v78 = 0 then (fL_law_1475 G r18 x3 M79) else (some (0, M79))) else none else none) else none else none
set_option maxRecDepth 100000 in
set_option maxHeartbeats 4000000 in
theorem pL_law_791 (G : jw_G) (nm : String) (hL : jw_gL G ≤ 384) (r18 : Int → jw_M → Option (Int × jw_M)) (hr18 : ∀ (x3 : Int) (hx3 : jw_r x3) (M : jw_M), jw_Rn G (YL_law nm) 32 0 0 true (fun q => q) 18 [(0, jQ G), (1, jR G 0), (2, jR G 127), (3, jI x3)] [] M (r18 x3 M)) : ∀ (x3 : Int) (hx3 : jw_r x3) (M : jw_M), jw_Rn G (YL_law nm) 32 0 0 true (fun q => q) 791 [(0, jQ G), (1, jR G 0), (2, jR G 127), (3, jI x3)] [] M (fL_law_791 G r18 x3 M) := by
  intro x3 hx3 M
  unfold fL_law_791
  refine jw_aloadR (pc := 791) 1 dL_law_791 rfl ?_
  refine jw_aloadQ (pc := 792) 0 dL_law_792 rfl ?_
  refine jw_iload_n (pc := 793) 3 dL_law_793 rfl ?_
  refine jw_iconst (pc := 794) dL_law_794 ?_
  refine jw_iadd (pc := 795) dL_law_795 ?_
  refine jw_qld (pc := 796) dL_law_796 (jw_wr _) ?_
  refine jw_aloadQ (pc := 797) 0 dL_law_797 rfl ?_
  refine jw_iload_n (pc := 798) 3 dL_law_798 rfl ?_
  refine jw_iconst (pc := 799) dL_law_799 ?_
  refine jw_iadd (pc := 800) dL_law_800 ?_
  refine jw_qld (pc := 801) dL_law_801 (jw_wr _) ?_
  refine jw_callVl (pc := 802) (As := [jI (jw_xq G (jw_w (x3 + 1))), jI (jw_xq G (jw_w (x3 + 2)))]) (st := []) dL_law_802 rfl (Nat.le_of_ble_eq_true rfl) qX11_feared jt_875 jt_876 jt_877 rfl rfl (Nat.le_of_ble_eq_true rfl) jv_11 rfl jg_0 jl_0 (by decide) (jw_ho jg_0 (by decide)) (kX11_feared G (jw_xq G (jw_w (x3 + 1))) (jw_xq G (jw_w (x3 + 2))) (jw_rI _) (jw_rI _) M) (fun v77 hv77 => ?_)
  refine jw_aloadR (pc := 805) 2 dL_law_805 rfl ?_
  refine jw_aloadQ (pc := 806) 0 dL_law_806 rfl ?_
  refine jw_iload_n (pc := 807) 3 dL_law_807 rfl ?_
  refine jw_iconst (pc := 808) dL_law_808 ?_
  refine jw_iadd (pc := 809) dL_law_809 ?_
  refine jw_qld (pc := 810) dL_law_810 (jw_wr _) ?_
  refine jw_aloadQ (pc := 811) 0 dL_law_811 rfl ?_
  refine jw_iload_n (pc := 812) 3 dL_law_812 rfl ?_
  refine jw_iconst (pc := 813) dL_law_813 ?_
  refine jw_iadd (pc := 814) dL_law_814 ?_
  refine jw_qld (pc := 815) dL_law_815 (jw_wr _) ?_
  refine jw_callVMl (pc := 816) (As := [jI (jw_xq G (jw_w (x3 + 1))), jI (jw_xq G (jw_w (x3 + 2)))]) (st := [jL v77]) dL_law_816 rfl (Nat.le_of_ble_eq_true rfl) qX12_feared jt_1567 jt_1568 jt_1569 rfl rfl (Nat.le_of_ble_eq_true rfl) jv_12 rfl jg_127 jl_127 (by decide) (jw_ho jg_127 (by decide)) (kX12_feared G (jw_xq G (jw_w (x3 + 1))) (jw_xq G (jw_w (x3 + 2))) (jw_rI _) (jw_rI _) M) (fun v78 M79 hv78 => ?_)
  refine jw_lcmp (pc := 819) dL_law_819 hv77 hv78 ?_
  refine jw_if_eq (pc := 820) 1475 dL_law_820 (by decide) (jw_cmpr _ _) (fun _ => ?_) (fun _ => ?_)
  · exact jw_few [0, 1, 2, 3] rfl (pL_law_1475 G nm hL r18 hr18 x3 hx3 M79)
  · refine jw_iconst (pc := 823) dL_law_823 ?_
    exact jw_ret (pc := 824) (v := 0) dL_law_824 (Or.inl rfl) rfl rfl
def fL_law_825 (G : jw_G) (r18 : Int → jw_M → Option (Int × jw_M)) (x3 : Int) (M : jw_M) : Option (Int × jw_M) :=
  if 0 ≤ jw_w (x3 + 1) ∧ jw_w (x3 + 1) < jw_Ln G then if 0 ≤ jw_w (x3 + 2) ∧ jw_w (x3 + 2) < jw_Ln G then Option.bind (fX11_score (jw_xq G (jw_w (x3 + 1))) (jw_xq G (jw_w (x3 + 2))) M) (fun v81 => if 0 ≤ jw_w (x3 + 1) ∧ jw_w (x3 + 1) < jw_Ln G then if 0 ≤ jw_w (x3 + 2) ∧ jw_w (x3 + 2) < jw_Ln G then jw_b2 (fX12_score (jw_xq G (jw_w (x3 + 1))) (jw_xq G (jw_w (x3 + 2))) M) (fun v82 M83 => if jw_cmp v81 v82 = 0 then (fL_law_1475 G r18 x3 M83) else (some (0, M83))) else none else none) else none else none
set_option maxRecDepth 100000 in
set_option maxHeartbeats 4000000 in
theorem pL_law_825 (G : jw_G) (nm : String) (hL : jw_gL G ≤ 384) (r18 : Int → jw_M → Option (Int × jw_M)) (hr18 : ∀ (x3 : Int) (hx3 : jw_r x3) (M : jw_M), jw_Rn G (YL_law nm) 32 0 0 true (fun q => q) 18 [(0, jQ G), (1, jR G 0), (2, jR G 127), (3, jI x3)] [] M (r18 x3 M)) : ∀ (x3 : Int) (hx3 : jw_r x3) (M : jw_M), jw_Rn G (YL_law nm) 32 0 0 true (fun q => q) 825 [(0, jQ G), (1, jR G 0), (2, jR G 127), (3, jI x3)] [] M (fL_law_825 G r18 x3 M) := by
  intro x3 hx3 M
  unfold fL_law_825
  refine jw_aloadR (pc := 825) 1 dL_law_825 rfl ?_
  refine jw_aloadQ (pc := 826) 0 dL_law_826 rfl ?_
  refine jw_iload_n (pc := 827) 3 dL_law_827 rfl ?_
  refine jw_iconst (pc := 828) dL_law_828 ?_
  refine jw_iadd (pc := 829) dL_law_829 ?_
  refine jw_qld (pc := 830) dL_law_830 (jw_wr _) ?_
  refine jw_aloadQ (pc := 831) 0 dL_law_831 rfl ?_
  refine jw_iload_n (pc := 832) 3 dL_law_832 rfl ?_
  refine jw_iconst (pc := 833) dL_law_833 ?_
  refine jw_iadd (pc := 834) dL_law_834 ?_
  refine jw_qld (pc := 835) dL_law_835 (jw_wr _) ?_
  refine jw_callVl (pc := 836) (As := [jI (jw_xq G (jw_w (x3 + 1))), jI (jw_xq G (jw_w (x3 + 2)))]) (st := []) dL_law_836 rfl (Nat.le_of_ble_eq_true rfl) qX11_score jt_896 jt_897 jt_898 rfl rfl (Nat.le_of_ble_eq_true rfl) jv_11 rfl jg_0 jl_0 (by decide) (jw_ho jg_0 (by decide)) (kX11_score G (jw_xq G (jw_w (x3 + 1))) (jw_xq G (jw_w (x3 + 2))) (jw_rI _) (jw_rI _) M) (fun v81 hv81 => ?_)
  refine jw_aloadR (pc := 839) 2 dL_law_839 rfl ?_
  refine jw_aloadQ (pc := 840) 0 dL_law_840 rfl ?_
  refine jw_iload_n (pc := 841) 3 dL_law_841 rfl ?_
  refine jw_iconst (pc := 842) dL_law_842 ?_
  refine jw_iadd (pc := 843) dL_law_843 ?_
  refine jw_qld (pc := 844) dL_law_844 (jw_wr _) ?_
  refine jw_aloadQ (pc := 845) 0 dL_law_845 rfl ?_
  refine jw_iload_n (pc := 846) 3 dL_law_846 rfl ?_
  refine jw_iconst (pc := 847) dL_law_847 ?_
  refine jw_iadd (pc := 848) dL_law_848 ?_
  refine jw_qld (pc := 849) dL_law_849 (jw_wr _) ?_
  refine jw_callVMl (pc := 850) (As := [jI (jw_xq G (jw_w (x3 + 1))), jI (jw_xq G (jw_w (x3 + 2)))]) (st := [jL v81]) dL_law_850 rfl (Nat.le_of_ble_eq_true rfl) qX12_score jt_1578 jt_1579 jt_1580 rfl rfl (Nat.le_of_ble_eq_true rfl) jv_12 rfl jg_127 jl_127 (by decide) (jw_ho jg_127 (by decide)) (kX12_score G (jw_xq G (jw_w (x3 + 1))) (jw_xq G (jw_w (x3 + 2))) (jw_rI _) (jw_rI _) M) (fun v82 M83 hv82 => ?_)
  refine jw_lcmp (pc := 853) dL_law_853 hv81 hv82 ?_
  refine jw_if_eq (pc := 854) 1475 dL_law_854 (by decide) (jw_cmpr _ _) (fun _ => ?_) (fun _ => ?_)
  · exact jw_few [0, 1, 2, 3] rfl (pL_law_1475 G nm hL r18 hr18 x3 hx3 M83)
  · refine jw_iconst (pc := 857) dL_law_857 ?_
    exact jw_ret (pc := 858) (v := 0) dL_law_858 (Or.inl rfl) rfl rfl
def fL_law_859 (G : jw_G) (r18 : Int → jw_M → Option (Int × jw_M)) (x3 : Int) (M : jw_M) : Option (Int × jw_M) :=
  if 0 ≤ jw_w (x3 + 1) ∧ jw_w (x3 + 1) < jw_Ln G then Option.bind (fX11_may (jw_xq G (jw_w (x3 + 1))) M) (fun v85 => if 0 ≤ jw_w (x3 + 1) ∧ jw_w (x3 + 1) < jw_Ln G then jw_b2 (fX12_may (jw_xq G (jw_w (x3 + 1))) M) (fun v86 M87 => if jw_cmp v85 v86 = 0 then (fL_law_1475 G r18 x3 M87) else (some (0, M87))) else none) else none
set_option maxRecDepth 100000 in
set_option maxHeartbeats 4000000 in
theorem pL_law_859 (G : jw_G) (nm : String) (hL : jw_gL G ≤ 384) (r18 : Int → jw_M → Option (Int × jw_M)) (hr18 : ∀ (x3 : Int) (hx3 : jw_r x3) (M : jw_M), jw_Rn G (YL_law nm) 32 0 0 true (fun q => q) 18 [(0, jQ G), (1, jR G 0), (2, jR G 127), (3, jI x3)] [] M (r18 x3 M)) : ∀ (x3 : Int) (hx3 : jw_r x3) (M : jw_M), jw_Rn G (YL_law nm) 32 0 0 true (fun q => q) 859 [(0, jQ G), (1, jR G 0), (2, jR G 127), (3, jI x3)] [] M (fL_law_859 G r18 x3 M) := by
  intro x3 hx3 M
  unfold fL_law_859
  refine jw_aloadR (pc := 859) 1 dL_law_859 rfl ?_
  refine jw_aloadQ (pc := 860) 0 dL_law_860 rfl ?_
  refine jw_iload_n (pc := 861) 3 dL_law_861 rfl ?_
  refine jw_iconst (pc := 862) dL_law_862 ?_
  refine jw_iadd (pc := 863) dL_law_863 ?_
  refine jw_qld (pc := 864) dL_law_864 (jw_wr _) ?_
  refine jw_callVl (pc := 865) (As := [jI (jw_xq G (jw_w (x3 + 1)))]) (st := []) dL_law_865 rfl (Nat.le_of_ble_eq_true rfl) qX11_may jt_911 jt_912 jt_913 rfl rfl (Nat.le_of_ble_eq_true rfl) jv_11 rfl jg_0 jl_0 (by decide) (jw_ho jg_0 (by decide)) (kX11_may G (jw_xq G (jw_w (x3 + 1))) (jw_rI _) M) (fun v85 hv85 => ?_)
  refine jw_aloadR (pc := 868) 2 dL_law_868 rfl ?_
  refine jw_aloadQ (pc := 869) 0 dL_law_869 rfl ?_
  refine jw_iload_n (pc := 870) 3 dL_law_870 rfl ?_
  refine jw_iconst (pc := 871) dL_law_871 ?_
  refine jw_iadd (pc := 872) dL_law_872 ?_
  refine jw_qld (pc := 873) dL_law_873 (jw_wr _) ?_
  refine jw_callVMl (pc := 874) (As := [jI (jw_xq G (jw_w (x3 + 1)))]) (st := [jL v85]) dL_law_874 rfl (Nat.le_of_ble_eq_true rfl) qX12_may jt_1586 jt_1587 jt_1588 rfl rfl (Nat.le_of_ble_eq_true rfl) jv_12 rfl jg_127 jl_127 (by decide) (jw_ho jg_127 (by decide)) (kX12_may G (jw_xq G (jw_w (x3 + 1))) (jw_rI _) M) (fun v86 M87 hv86 => ?_)
  refine jw_lcmp (pc := 877) dL_law_877 hv85 hv86 ?_
  refine jw_if_eq (pc := 878) 1475 dL_law_878 (by decide) (jw_cmpr _ _) (fun _ => ?_) (fun _ => ?_)
  · exact jw_few [0, 1, 2, 3] rfl (pL_law_1475 G nm hL r18 hr18 x3 hx3 M87)
  · refine jw_iconst (pc := 881) dL_law_881 ?_
    exact jw_ret (pc := 882) (v := 0) dL_law_882 (Or.inl rfl) rfl rfl
def fL_law_883 (G : jw_G) (r18 : Int → jw_M → Option (Int × jw_M)) (x3 : Int) (M : jw_M) : Option (Int × jw_M) :=
  if 0 ≤ jw_w (x3 + 1) ∧ jw_w (x3 + 1) < jw_Ln G then Option.bind (fX11_newcomer (jw_xq G (jw_w (x3 + 1))) M) (fun v89 => if 0 ≤ jw_w (x3 + 1) ∧ jw_w (x3 + 1) < jw_Ln G then jw_b2 (fX12_newcomer (jw_xq G (jw_w (x3 + 1))) M) (fun v90 M91 => if jw_cmp v89 v90 = 0 then (fL_law_1475 G r18 x3 M91) else (some (0, M91))) else none) else none
set_option maxRecDepth 100000 in
set_option maxHeartbeats 4000000 in
theorem pL_law_883 (G : jw_G) (nm : String) (hL : jw_gL G ≤ 384) (r18 : Int → jw_M → Option (Int × jw_M)) (hr18 : ∀ (x3 : Int) (hx3 : jw_r x3) (M : jw_M), jw_Rn G (YL_law nm) 32 0 0 true (fun q => q) 18 [(0, jQ G), (1, jR G 0), (2, jR G 127), (3, jI x3)] [] M (r18 x3 M)) : ∀ (x3 : Int) (hx3 : jw_r x3) (M : jw_M), jw_Rn G (YL_law nm) 32 0 0 true (fun q => q) 883 [(0, jQ G), (1, jR G 0), (2, jR G 127), (3, jI x3)] [] M (fL_law_883 G r18 x3 M) := by
  intro x3 hx3 M
  unfold fL_law_883
  refine jw_aloadR (pc := 883) 1 dL_law_883 rfl ?_
  refine jw_aloadQ (pc := 884) 0 dL_law_884 rfl ?_
  refine jw_iload_n (pc := 885) 3 dL_law_885 rfl ?_
  refine jw_iconst (pc := 886) dL_law_886 ?_
  refine jw_iadd (pc := 887) dL_law_887 ?_
  refine jw_qld (pc := 888) dL_law_888 (jw_wr _) ?_
  refine jw_callVl (pc := 889) (As := [jI (jw_xq G (jw_w (x3 + 1)))]) (st := []) dL_law_889 rfl (Nat.le_of_ble_eq_true rfl) qX11_newcomer jt_924 jt_925 jt_926 rfl rfl (Nat.le_of_ble_eq_true rfl) jv_11 rfl jg_0 jl_0 (by decide) (jw_ho jg_0 (by decide)) (kX11_newcomer G (jw_xq G (jw_w (x3 + 1))) (jw_rI _) M) (fun v89 hv89 => ?_)
  refine jw_aloadR (pc := 892) 2 dL_law_892 rfl ?_
  refine jw_aloadQ (pc := 893) 0 dL_law_893 rfl ?_
  refine jw_iload_n (pc := 894) 3 dL_law_894 rfl ?_
  refine jw_iconst (pc := 895) dL_law_895 ?_
  refine jw_iadd (pc := 896) dL_law_896 ?_
  refine jw_qld (pc := 897) dL_law_897 (jw_wr _) ?_
  refine jw_callVMl (pc := 898) (As := [jI (jw_xq G (jw_w (x3 + 1)))]) (st := [jL v89]) dL_law_898 rfl (Nat.le_of_ble_eq_true rfl) qX12_newcomer jt_1598 jt_1599 jt_1600 rfl rfl (Nat.le_of_ble_eq_true rfl) jv_12 rfl jg_127 jl_127 (by decide) (jw_ho jg_127 (by decide)) (kX12_newcomer G (jw_xq G (jw_w (x3 + 1))) (jw_rI _) M) (fun v90 M91 hv90 => ?_)
  refine jw_lcmp (pc := 901) dL_law_901 hv89 hv90 ?_
  refine jw_if_eq (pc := 902) 1475 dL_law_902 (by decide) (jw_cmpr _ _) (fun _ => ?_) (fun _ => ?_)
  · exact jw_few [0, 1, 2, 3] rfl (pL_law_1475 G nm hL r18 hr18 x3 hx3 M91)
  · refine jw_iconst (pc := 905) dL_law_905 ?_
    exact jw_ret (pc := 906) (v := 0) dL_law_906 (Or.inl rfl) rfl rfl
def fL_law_907 (G : jw_G) (r18 : Int → jw_M → Option (Int × jw_M)) (x3 : Int) (M : jw_M) : Option (Int × jw_M) :=
  Option.bind (fX11_rest  M) (fun v93 => jw_b2 (fX12_rest  M) (fun v94 M95 => if jw_cmp v93 v94 = 0 then (fL_law_1475 G r18 x3 M95) else (some (0, M95))))
set_option maxRecDepth 100000 in
set_option maxHeartbeats 4000000 in
theorem pL_law_907 (G : jw_G) (nm : String) (hL : jw_gL G ≤ 384) (r18 : Int → jw_M → Option (Int × jw_M)) (hr18 : ∀ (x3 : Int) (hx3 : jw_r x3) (M : jw_M), jw_Rn G (YL_law nm) 32 0 0 true (fun q => q) 18 [(0, jQ G), (1, jR G 0), (2, jR G 127), (3, jI x3)] [] M (r18 x3 M)) : ∀ (x3 : Int) (hx3 : jw_r x3) (M : jw_M), jw_Rn G (YL_law nm) 32 0 0 true (fun q => q) 907 [(0, jQ G), (1, jR G 0), (2, jR G 127), (3, jI x3)] [] M (fL_law_907 G r18 x3 M) := by
  intro x3 hx3 M
  unfold fL_law_907
  refine jw_aloadR (pc := 907) 1 dL_law_907 rfl ?_
  refine jw_callVl (pc := 908) (As := []) (st := []) dL_law_908 rfl (Nat.le_of_ble_eq_true rfl) qX11_rest jt_932 jt_933 jt_934 rfl rfl (Nat.le_of_ble_eq_true rfl) jv_11 rfl jg_0 jl_0 (by decide) (jw_ho jg_0 (by decide)) (kX11_rest G  M) (fun v93 hv93 => ?_)
  refine jw_aloadR (pc := 911) 2 dL_law_911 rfl ?_
  refine jw_callVMl (pc := 912) (As := []) (st := [jL v93]) dL_law_912 rfl (Nat.le_of_ble_eq_true rfl) qX12_rest jt_1602 jt_1603 jt_1604 rfl rfl (Nat.le_of_ble_eq_true rfl) jv_12 rfl jg_127 jl_127 (by decide) (jw_ho jg_127 (by decide)) (kX12_rest G  M) (fun v94 M95 hv94 => ?_)
  refine jw_lcmp (pc := 915) dL_law_915 hv93 hv94 ?_
  refine jw_if_eq (pc := 916) 1475 dL_law_916 (by decide) (jw_cmpr _ _) (fun _ => ?_) (fun _ => ?_)
  · exact jw_few [0, 1, 2, 3] rfl (pL_law_1475 G nm hL r18 hr18 x3 hx3 M95)
  · refine jw_iconst (pc := 919) dL_law_919 ?_
    exact jw_ret (pc := 920) (v := 0) dL_law_920 (Or.inl rfl) rfl rfl
def fL_law_921 (G : jw_G) (r18 : Int → jw_M → Option (Int × jw_M)) (x3 : Int) (M : jw_M) : Option (Int × jw_M) :=
  jw_b2 (fX11_settle  M) (fun v97 M98 => jw_b2 (fX12_settle  M98) (fun v99 M100 => if jw_cmp v97 v99 = 0 then (fL_law_1475 G r18 x3 M100) else (some (0, M100))))
set_option maxRecDepth 100000 in
set_option maxHeartbeats 4000000 in
theorem pL_law_921 (G : jw_G) (nm : String) (hL : jw_gL G ≤ 384) (r18 : Int → jw_M → Option (Int × jw_M)) (hr18 : ∀ (x3 : Int) (hx3 : jw_r x3) (M : jw_M), jw_Rn G (YL_law nm) 32 0 0 true (fun q => q) 18 [(0, jQ G), (1, jR G 0), (2, jR G 127), (3, jI x3)] [] M (r18 x3 M)) : ∀ (x3 : Int) (hx3 : jw_r x3) (M : jw_M), jw_Rn G (YL_law nm) 32 0 0 true (fun q => q) 921 [(0, jQ G), (1, jR G 0), (2, jR G 127), (3, jI x3)] [] M (fL_law_921 G r18 x3 M) := by
  intro x3 hx3 M
  unfold fL_law_921
  refine jw_aloadR (pc := 921) 1 dL_law_921 rfl ?_
  refine jw_callVMl (pc := 922) (As := []) (st := []) dL_law_922 rfl (Nat.le_of_ble_eq_true rfl) qX11_settle jt_945 jt_946 jt_947 rfl rfl (Nat.le_of_ble_eq_true rfl) jv_11 rfl jg_0 jl_0 (by decide) (jw_ho jg_0 (by decide)) (kX11_settle G  M) (fun v97 M98 hv97 => ?_)
  refine jw_aloadR (pc := 925) 2 dL_law_925 rfl ?_
  refine jw_callVMl (pc := 926) (As := []) (st := [jL v97]) dL_law_926 rfl (Nat.le_of_ble_eq_true rfl) qX12_settle jt_1614 jt_1615 jt_1616 rfl rfl (Nat.le_of_ble_eq_true rfl) jv_12 rfl jg_127 jl_127 (by decide) (jw_ho jg_127 (by decide)) (kX12_settle G  M98) (fun v99 M100 hv99 => ?_)
  refine jw_lcmp (pc := 929) dL_law_929 hv97 hv99 ?_
  refine jw_if_eq (pc := 930) 1475 dL_law_930 (by decide) (jw_cmpr _ _) (fun _ => ?_) (fun _ => ?_)
  · exact jw_few [0, 1, 2, 3] rfl (pL_law_1475 G nm hL r18 hr18 x3 hx3 M100)
  · refine jw_iconst (pc := 933) dL_law_933 ?_
    exact jw_ret (pc := 934) (v := 0) dL_law_934 (Or.inl rfl) rfl rfl
def fL_law_935 (G : jw_G) (r18 : Int → jw_M → Option (Int × jw_M)) (x3 : Int) (M : jw_M) : Option (Int × jw_M) :=
  if 0 ≤ jw_w (x3 + 1) ∧ jw_w (x3 + 1) < jw_Ln G then jw_b2 (fX11_rests (jw_xq G (jw_w (x3 + 1))) M) (fun v102 M103 => if 0 ≤ jw_w (x3 + 1) ∧ jw_w (x3 + 1) < jw_Ln G then jw_b2 (fX12_rests (jw_xq G (jw_w (x3 + 1))) M103) (fun v104 M105 => if jw_cmp v102 v104 = 0 then (fL_law_1475 G r18 x3 M105) else (some (0, M105))) else none) else none
set_option maxRecDepth 100000 in
set_option maxHeartbeats 4000000 in
theorem pL_law_935 (G : jw_G) (nm : String) (hL : jw_gL G ≤ 384) (r18 : Int → jw_M → Option (Int × jw_M)) (hr18 : ∀ (x3 : Int) (hx3 : jw_r x3) (M : jw_M), jw_Rn G (YL_law nm) 32 0 0 true (fun q => q) 18 [(0, jQ G), (1, jR G 0), (2, jR G 127), (3, jI x3)] [] M (r18 x3 M)) : ∀ (x3 : Int) (hx3 : jw_r x3) (M : jw_M), jw_Rn G (YL_law nm) 32 0 0 true (fun q => q) 935 [(0, jQ G), (1, jR G 0), (2, jR G 127), (3, jI x3)] [] M (fL_law_935 G r18 x3 M) := by
  intro x3 hx3 M
  unfold fL_law_935
  refine jw_aloadR (pc := 935) 1 dL_law_935 rfl ?_
  refine jw_aloadQ (pc := 936) 0 dL_law_936 rfl ?_
  refine jw_iload_n (pc := 937) 3 dL_law_937 rfl ?_
  refine jw_iconst (pc := 938) dL_law_938 ?_
  refine jw_iadd (pc := 939) dL_law_939 ?_
  refine jw_qld (pc := 940) dL_law_940 (jw_wr _) ?_
  refine jw_callVMl (pc := 941) (As := [jI (jw_xq G (jw_w (x3 + 1)))]) (st := []) dL_law_941 rfl (Nat.le_of_ble_eq_true rfl) qX11_rests jt_958 jt_959 jt_960 rfl rfl (Nat.le_of_ble_eq_true rfl) jv_11 rfl jg_0 jl_0 (by decide) (jw_ho jg_0 (by decide)) (kX11_rests G (jw_xq G (jw_w (x3 + 1))) (jw_rI _) M) (fun v102 M103 hv102 => ?_)
  refine jw_aloadR (pc := 944) 2 dL_law_944 rfl ?_
  refine jw_aloadQ (pc := 945) 0 dL_law_945 rfl ?_
  refine jw_iload_n (pc := 946) 3 dL_law_946 rfl ?_
  refine jw_iconst (pc := 947) dL_law_947 ?_
  refine jw_iadd (pc := 948) dL_law_948 ?_
  refine jw_qld (pc := 949) dL_law_949 (jw_wr _) ?_
  refine jw_callVMl (pc := 950) (As := [jI (jw_xq G (jw_w (x3 + 1)))]) (st := [jL v102]) dL_law_950 rfl (Nat.le_of_ble_eq_true rfl) qX12_rests jt_1618 jt_1619 jt_1620 rfl rfl (Nat.le_of_ble_eq_true rfl) jv_12 rfl jg_127 jl_127 (by decide) (jw_ho jg_127 (by decide)) (kX12_rests G (jw_xq G (jw_w (x3 + 1))) (jw_rI _) M103) (fun v104 M105 hv104 => ?_)
  refine jw_lcmp (pc := 953) dL_law_953 hv102 hv104 ?_
  refine jw_if_eq (pc := 954) 1475 dL_law_954 (by decide) (jw_cmpr _ _) (fun _ => ?_) (fun _ => ?_)
  · exact jw_few [0, 1, 2, 3] rfl (pL_law_1475 G nm hL r18 hr18 x3 hx3 M105)
  · refine jw_iconst (pc := 957) dL_law_957 ?_
    exact jw_ret (pc := 958) (v := 0) dL_law_958 (Or.inl rfl) rfl rfl
def fL_law_959 (G : jw_G) (r18 : Int → jw_M → Option (Int × jw_M)) (x3 : Int) (M : jw_M) : Option (Int × jw_M) :=
  if 0 ≤ jw_w (x3 + 1) ∧ jw_w (x3 + 1) < jw_Ln G then if 0 ≤ jw_w (x3 + 2) ∧ jw_w (x3 + 2) < jw_Ln G then Option.bind (fX11_saved (jw_xq G (jw_w (x3 + 1))) (jw_xq G (jw_w (x3 + 2))) M) (fun v107 => if 0 ≤ jw_w (x3 + 1) ∧ jw_w (x3 + 1) < jw_Ln G then if 0 ≤ jw_w (x3 + 2) ∧ jw_w (x3 + 2) < jw_Ln G then jw_b2 (fX12_saved (jw_xq G (jw_w (x3 + 1))) (jw_xq G (jw_w (x3 + 2))) M) (fun v108 M109 => if jw_cmp v107 v108 = 0 then (fL_law_1475 G r18 x3 M109) else (some (0, M109))) else none else none) else none else none
set_option maxRecDepth 100000 in
set_option maxHeartbeats 4000000 in
theorem pL_law_959 (G : jw_G) (nm : String) (hL : jw_gL G ≤ 384) (r18 : Int → jw_M → Option (Int × jw_M)) (hr18 : ∀ (x3 : Int) (hx3 : jw_r x3) (M : jw_M), jw_Rn G (YL_law nm) 32 0 0 true (fun q => q) 18 [(0, jQ G), (1, jR G 0), (2, jR G 127), (3, jI x3)] [] M (r18 x3 M)) : ∀ (x3 : Int) (hx3 : jw_r x3) (M : jw_M), jw_Rn G (YL_law nm) 32 0 0 true (fun q => q) 959 [(0, jQ G), (1, jR G 0), (2, jR G 127), (3, jI x3)] [] M (fL_law_959 G r18 x3 M) := by
  intro x3 hx3 M
  unfold fL_law_959
  refine jw_aloadR (pc := 959) 1 dL_law_959 rfl ?_
  refine jw_aloadQ (pc := 960) 0 dL_law_960 rfl ?_
  refine jw_iload_n (pc := 961) 3 dL_law_961 rfl ?_
  refine jw_iconst (pc := 962) dL_law_962 ?_
  refine jw_iadd (pc := 963) dL_law_963 ?_
  refine jw_qld (pc := 964) dL_law_964 (jw_wr _) ?_
  refine jw_aloadQ (pc := 965) 0 dL_law_965 rfl ?_
  refine jw_iload_n (pc := 966) 3 dL_law_966 rfl ?_
  refine jw_iconst (pc := 967) dL_law_967 ?_
  refine jw_iadd (pc := 968) dL_law_968 ?_
  refine jw_qld (pc := 969) dL_law_969 (jw_wr _) ?_
  refine jw_callVl (pc := 970) (As := [jI (jw_xq G (jw_w (x3 + 1))), jI (jw_xq G (jw_w (x3 + 2)))]) (st := []) dL_law_970 rfl (Nat.le_of_ble_eq_true rfl) qX11_saved jt_995 jt_996 jt_997 rfl rfl (Nat.le_of_ble_eq_true rfl) jv_11 rfl jg_0 jl_0 (by decide) (jw_ho jg_0 (by decide)) (kX11_saved G (jw_xq G (jw_w (x3 + 1))) (jw_xq G (jw_w (x3 + 2))) (jw_rI _) (jw_rI _) M) (fun v107 hv107 => ?_)
  refine jw_aloadR (pc := 973) 2 dL_law_973 rfl ?_
  refine jw_aloadQ (pc := 974) 0 dL_law_974 rfl ?_
  refine jw_iload_n (pc := 975) 3 dL_law_975 rfl ?_
  refine jw_iconst (pc := 976) dL_law_976 ?_
  refine jw_iadd (pc := 977) dL_law_977 ?_
  refine jw_qld (pc := 978) dL_law_978 (jw_wr _) ?_
  refine jw_aloadQ (pc := 979) 0 dL_law_979 rfl ?_
  refine jw_iload_n (pc := 980) 3 dL_law_980 rfl ?_
  refine jw_iconst (pc := 981) dL_law_981 ?_
  refine jw_iadd (pc := 982) dL_law_982 ?_
  refine jw_qld (pc := 983) dL_law_983 (jw_wr _) ?_
  refine jw_callVMl (pc := 984) (As := [jI (jw_xq G (jw_w (x3 + 1))), jI (jw_xq G (jw_w (x3 + 2)))]) (st := [jL v107]) dL_law_984 rfl (Nat.le_of_ble_eq_true rfl) qX12_saved jt_1622 jt_1623 jt_1624 rfl rfl (Nat.le_of_ble_eq_true rfl) jv_12 rfl jg_127 jl_127 (by decide) (jw_ho jg_127 (by decide)) (kX12_saved G (jw_xq G (jw_w (x3 + 1))) (jw_xq G (jw_w (x3 + 2))) (jw_rI _) (jw_rI _) M) (fun v108 M109 hv108 => ?_)
  refine jw_lcmp (pc := 987) dL_law_987 hv107 hv108 ?_
  refine jw_if_eq (pc := 988) 1475 dL_law_988 (by decide) (jw_cmpr _ _) (fun _ => ?_) (fun _ => ?_)
  · exact jw_few [0, 1, 2, 3] rfl (pL_law_1475 G nm hL r18 hr18 x3 hx3 M109)
  · refine jw_iconst (pc := 991) dL_law_991 ?_
    exact jw_ret (pc := 992) (v := 0) dL_law_992 (Or.inl rfl) rfl rfl
def fL_law_993 (G : jw_G) (r18 : Int → jw_M → Option (Int × jw_M)) (x3 : Int) (M : jw_M) : Option (Int × jw_M) :=
  if 0 ≤ jw_w (x3 + 1) ∧ jw_w (x3 + 1) < jw_Ln G then if 0 ≤ jw_w (x3 + 2) ∧ jw_w (x3 + 2) < jw_Ln G then if 0 ≤ jw_w (x3 + 3) ∧ jw_w (x3 + 3) < jw_Ln G then if 0 ≤ jw_w (x3 + 4) ∧ jw_w (x3 + 4) < jw_Ln G then jw_b2 (fX11_pays (jw_xq G (jw_w (x3 + 1))) (jw_xq G (jw_w (x3 + 2))) (jw_xq G (jw_w (x3 + 3))) (jw_xq G (jw_w (x3 + 4))) M) (fun v111 M112 => if 0 ≤ jw_w (x3 + 1) ∧ jw_w (x3 + 1) < jw_Ln G then if 0 ≤ jw_w (x3 + 2) ∧ jw_w (x3 + 2) < jw_Ln G then if 0 ≤ jw_w (x3 + 3) ∧ jw_w (x3 + 3) < jw_Ln G then if 0 ≤ jw_w (x3 + 4) ∧ jw_w (x3 + 4) < jw_Ln G then jw_b2 (fX12_pays (jw_xq G (jw_w (x3 + 1))) (jw_xq G (jw_w (x3 + 2))) (jw_xq G (jw_w (x3 + 3))) (jw_xq G (jw_w (x3 + 4))) M112) (fun v113 M114 => if jw_cmp v111 v113 = 0 then (fL_law_1475 G r18 x3 M114) else (some (0, M114))) else none else none else none else none) else none else none else none else none
set_option maxRecDepth 100000 in
set_option maxHeartbeats 4000000 in
theorem pL_law_993 (G : jw_G) (nm : String) (hL : jw_gL G ≤ 384) (r18 : Int → jw_M → Option (Int × jw_M)) (hr18 : ∀ (x3 : Int) (hx3 : jw_r x3) (M : jw_M), jw_Rn G (YL_law nm) 32 0 0 true (fun q => q) 18 [(0, jQ G), (1, jR G 0), (2, jR G 127), (3, jI x3)] [] M (r18 x3 M)) : ∀ (x3 : Int) (hx3 : jw_r x3) (M : jw_M), jw_Rn G (YL_law nm) 32 0 0 true (fun q => q) 993 [(0, jQ G), (1, jR G 0), (2, jR G 127), (3, jI x3)] [] M (fL_law_993 G r18 x3 M) := by
  intro x3 hx3 M
  unfold fL_law_993
  refine jw_aloadR (pc := 993) 1 dL_law_993 rfl ?_
  refine jw_aloadQ (pc := 994) 0 dL_law_994 rfl ?_
  refine jw_iload_n (pc := 995) 3 dL_law_995 rfl ?_
  refine jw_iconst (pc := 996) dL_law_996 ?_
  refine jw_iadd (pc := 997) dL_law_997 ?_
  refine jw_qld (pc := 998) dL_law_998 (jw_wr _) ?_
  refine jw_aloadQ (pc := 999) 0 dL_law_999 rfl ?_
  refine jw_iload_n (pc := 1000) 3 dL_law_1000 rfl ?_
  refine jw_iconst (pc := 1001) dL_law_1001 ?_
  refine jw_iadd (pc := 1002) dL_law_1002 ?_
  refine jw_qld (pc := 1003) dL_law_1003 (jw_wr _) ?_
  refine jw_aloadQ (pc := 1004) 0 dL_law_1004 rfl ?_
  refine jw_iload_n (pc := 1005) 3 dL_law_1005 rfl ?_
  refine jw_iconst (pc := 1006) dL_law_1006 ?_
  refine jw_iadd (pc := 1007) dL_law_1007 ?_
  refine jw_qld (pc := 1008) dL_law_1008 (jw_wr _) ?_
  refine jw_aloadQ (pc := 1009) 0 dL_law_1009 rfl ?_
  refine jw_iload_n (pc := 1010) 3 dL_law_1010 rfl ?_
  refine jw_iconst (pc := 1011) dL_law_1011 ?_
  refine jw_iadd (pc := 1012) dL_law_1012 ?_
  refine jw_qld (pc := 1013) dL_law_1013 (jw_wr _) ?_
  refine jw_callVMl (pc := 1014) (As := [jI (jw_xq G (jw_w (x3 + 1))), jI (jw_xq G (jw_w (x3 + 2))), jI (jw_xq G (jw_w (x3 + 3))), jI (jw_xq G (jw_w (x3 + 4)))]) (st := []) dL_law_1014 rfl (Nat.le_of_ble_eq_true rfl) qX11_pays jt_1003 jt_1004 jt_1005 rfl rfl (Nat.le_of_ble_eq_true rfl) jv_11 rfl jg_0 jl_0 (by decide) (jw_ho jg_0 (by decide)) (kX11_pays G (jw_xq G (jw_w (x3 + 1))) (jw_xq G (jw_w (x3 + 2))) (jw_xq G (jw_w (x3 + 3))) (jw_xq G (jw_w (x3 + 4))) (jw_rI _) (jw_rI _) (jw_rI _) (jw_rI _) M) (fun v111 M112 hv111 => ?_)
  refine jw_aloadR (pc := 1017) 2 dL_law_1017 rfl ?_
  refine jw_aloadQ (pc := 1018) 0 dL_law_1018 rfl ?_
  refine jw_iload_n (pc := 1019) 3 dL_law_1019 rfl ?_
  refine jw_iconst (pc := 1020) dL_law_1020 ?_
  refine jw_iadd (pc := 1021) dL_law_1021 ?_
  refine jw_qld (pc := 1022) dL_law_1022 (jw_wr _) ?_
  refine jw_aloadQ (pc := 1023) 0 dL_law_1023 rfl ?_
  refine jw_iload_n (pc := 1024) 3 dL_law_1024 rfl ?_
  refine jw_iconst (pc := 1025) dL_law_1025 ?_
  refine jw_iadd (pc := 1026) dL_law_1026 ?_
  refine jw_qld (pc := 1027) dL_law_1027 (jw_wr _) ?_
  refine jw_aloadQ (pc := 1028) 0 dL_law_1028 rfl ?_
  refine jw_iload_n (pc := 1029) 3 dL_law_1029 rfl ?_
  refine jw_iconst (pc := 1030) dL_law_1030 ?_
  refine jw_iadd (pc := 1031) dL_law_1031 ?_
  refine jw_qld (pc := 1032) dL_law_1032 (jw_wr _) ?_
  refine jw_aloadQ (pc := 1033) 0 dL_law_1033 rfl ?_
  refine jw_iload_n (pc := 1034) 3 dL_law_1034 rfl ?_
  refine jw_iconst (pc := 1035) dL_law_1035 ?_
  refine jw_iadd (pc := 1036) dL_law_1036 ?_
  refine jw_qld (pc := 1037) dL_law_1037 (jw_wr _) ?_
  refine jw_callVMl (pc := 1038) (As := [jI (jw_xq G (jw_w (x3 + 1))), jI (jw_xq G (jw_w (x3 + 2))), jI (jw_xq G (jw_w (x3 + 3))), jI (jw_xq G (jw_w (x3 + 4)))]) (st := [jL v111]) dL_law_1038 rfl (Nat.le_of_ble_eq_true rfl) qX12_pays jt_1630 jt_1631 jt_1632 rfl rfl (Nat.le_of_ble_eq_true rfl) jv_12 rfl jg_127 jl_127 (by decide) (jw_ho jg_127 (by decide)) (kX12_pays G (jw_xq G (jw_w (x3 + 1))) (jw_xq G (jw_w (x3 + 2))) (jw_xq G (jw_w (x3 + 3))) (jw_xq G (jw_w (x3 + 4))) (jw_rI _) (jw_rI _) (jw_rI _) (jw_rI _) M112) (fun v113 M114 hv113 => ?_)
  refine jw_lcmp (pc := 1041) dL_law_1041 hv111 hv113 ?_
  refine jw_if_eq (pc := 1042) 1475 dL_law_1042 (by decide) (jw_cmpr _ _) (fun _ => ?_) (fun _ => ?_)
  · exact jw_few [0, 1, 2, 3] rfl (pL_law_1475 G nm hL r18 hr18 x3 hx3 M114)
  · refine jw_iconst (pc := 1045) dL_law_1045 ?_
    exact jw_ret (pc := 1046) (v := 0) dL_law_1046 (Or.inl rfl) rfl rfl
def fL_law_1047 (G : jw_G) (r18 : Int → jw_M → Option (Int × jw_M)) (x3 : Int) (M : jw_M) : Option (Int × jw_M) :=
  if 0 ≤ jw_w (x3 + 1) ∧ jw_w (x3 + 1) < jw_Ln G then jw_b2 (fX11_stored (jw_xq G (jw_w (x3 + 1))) M) (fun v116 M117 => if 0 ≤ jw_w (x3 + 1) ∧ jw_w (x3 + 1) < jw_Ln G then jw_b2 (fX12_stored (jw_xq G (jw_w (x3 + 1))) M117) (fun v118 M119 => if jw_cmp v116 v118 = 0 then (fL_law_1475 G r18 x3 M119) else (some (0, M119))) else none) else none
set_option maxRecDepth 100000 in
set_option maxHeartbeats 4000000 in
theorem pL_law_1047 (G : jw_G) (nm : String) (hL : jw_gL G ≤ 384) (r18 : Int → jw_M → Option (Int × jw_M)) (hr18 : ∀ (x3 : Int) (hx3 : jw_r x3) (M : jw_M), jw_Rn G (YL_law nm) 32 0 0 true (fun q => q) 18 [(0, jQ G), (1, jR G 0), (2, jR G 127), (3, jI x3)] [] M (r18 x3 M)) : ∀ (x3 : Int) (hx3 : jw_r x3) (M : jw_M), jw_Rn G (YL_law nm) 32 0 0 true (fun q => q) 1047 [(0, jQ G), (1, jR G 0), (2, jR G 127), (3, jI x3)] [] M (fL_law_1047 G r18 x3 M) := by
  intro x3 hx3 M
  unfold fL_law_1047
  refine jw_aloadR (pc := 1047) 1 dL_law_1047 rfl ?_
  refine jw_aloadQ (pc := 1048) 0 dL_law_1048 rfl ?_
  refine jw_iload_n (pc := 1049) 3 dL_law_1049 rfl ?_
  refine jw_iconst (pc := 1050) dL_law_1050 ?_
  refine jw_iadd (pc := 1051) dL_law_1051 ?_
  refine jw_qld (pc := 1052) dL_law_1052 (jw_wr _) ?_
  refine jw_callVMl (pc := 1053) (As := [jI (jw_xq G (jw_w (x3 + 1)))]) (st := []) dL_law_1053 rfl (Nat.le_of_ble_eq_true rfl) qX11_stored jt_1027 jt_1028 jt_1029 rfl rfl (Nat.le_of_ble_eq_true rfl) jv_11 rfl jg_0 jl_0 (by decide) (jw_ho jg_0 (by decide)) (kX11_stored G (jw_xq G (jw_w (x3 + 1))) (jw_rI _) M) (fun v116 M117 hv116 => ?_)
  refine jw_aloadR (pc := 1056) 2 dL_law_1056 rfl ?_
  refine jw_aloadQ (pc := 1057) 0 dL_law_1057 rfl ?_
  refine jw_iload_n (pc := 1058) 3 dL_law_1058 rfl ?_
  refine jw_iconst (pc := 1059) dL_law_1059 ?_
  refine jw_iadd (pc := 1060) dL_law_1060 ?_
  refine jw_qld (pc := 1061) dL_law_1061 (jw_wr _) ?_
  refine jw_callVMl (pc := 1062) (As := [jI (jw_xq G (jw_w (x3 + 1)))]) (st := [jL v116]) dL_law_1062 rfl (Nat.le_of_ble_eq_true rfl) qX12_stored jt_1645 jt_1646 jt_1647 rfl rfl (Nat.le_of_ble_eq_true rfl) jv_12 rfl jg_127 jl_127 (by decide) (jw_ho jg_127 (by decide)) (kX12_stored G (jw_xq G (jw_w (x3 + 1))) (jw_rI _) M117) (fun v118 M119 hv118 => ?_)
  refine jw_lcmp (pc := 1065) dL_law_1065 hv116 hv118 ?_
  refine jw_if_eq (pc := 1066) 1475 dL_law_1066 (by decide) (jw_cmpr _ _) (fun _ => ?_) (fun _ => ?_)
  · exact jw_few [0, 1, 2, 3] rfl (pL_law_1475 G nm hL r18 hr18 x3 hx3 M119)
  · refine jw_iconst (pc := 1069) dL_law_1069 ?_
    exact jw_ret (pc := 1070) (v := 0) dL_law_1070 (Or.inl rfl) rfl rfl
def fL_law_1071 (G : jw_G) (r18 : Int → jw_M → Option (Int × jw_M)) (x3 : Int) (M : jw_M) : Option (Int × jw_M) :=
  if 0 ≤ jw_w (x3 + 1) ∧ jw_w (x3 + 1) < jw_Ln G then if 0 ≤ jw_w (x3 + 2) ∧ jw_w (x3 + 2) < jw_Ln G then Option.bind (fX11_escapes (jw_xq G (jw_w (x3 + 1))) (jw_xq G (jw_w (x3 + 2))) M) (fun v121 => if 0 ≤ jw_w (x3 + 1) ∧ jw_w (x3 + 1) < jw_Ln G then if 0 ≤ jw_w (x3 + 2) ∧ jw_w (x3 + 2) < jw_Ln G then jw_b2 (fX12_escapes (jw_xq G (jw_w (x3 + 1))) (jw_xq G (jw_w (x3 + 2))) M) (fun v122 M123 => if jw_cmp v121 v122 = 0 then (fL_law_1475 G r18 x3 M123) else (some (0, M123))) else none else none) else none else none
set_option maxRecDepth 100000 in
set_option maxHeartbeats 4000000 in
theorem pL_law_1071 (G : jw_G) (nm : String) (hL : jw_gL G ≤ 384) (r18 : Int → jw_M → Option (Int × jw_M)) (hr18 : ∀ (x3 : Int) (hx3 : jw_r x3) (M : jw_M), jw_Rn G (YL_law nm) 32 0 0 true (fun q => q) 18 [(0, jQ G), (1, jR G 0), (2, jR G 127), (3, jI x3)] [] M (r18 x3 M)) : ∀ (x3 : Int) (hx3 : jw_r x3) (M : jw_M), jw_Rn G (YL_law nm) 32 0 0 true (fun q => q) 1071 [(0, jQ G), (1, jR G 0), (2, jR G 127), (3, jI x3)] [] M (fL_law_1071 G r18 x3 M) := by
  intro x3 hx3 M
  unfold fL_law_1071
  refine jw_aloadR (pc := 1071) 1 dL_law_1071 rfl ?_
  refine jw_aloadQ (pc := 1072) 0 dL_law_1072 rfl ?_
  refine jw_iload_n (pc := 1073) 3 dL_law_1073 rfl ?_
  refine jw_iconst (pc := 1074) dL_law_1074 ?_
  refine jw_iadd (pc := 1075) dL_law_1075 ?_
  refine jw_qld (pc := 1076) dL_law_1076 (jw_wr _) ?_
  refine jw_aloadQ (pc := 1077) 0 dL_law_1077 rfl ?_
  refine jw_iload_n (pc := 1078) 3 dL_law_1078 rfl ?_
  refine jw_iconst (pc := 1079) dL_law_1079 ?_
  refine jw_iadd (pc := 1080) dL_law_1080 ?_
  refine jw_qld (pc := 1081) dL_law_1081 (jw_wr _) ?_
  refine jw_callVl (pc := 1082) (As := [jI (jw_xq G (jw_w (x3 + 1))), jI (jw_xq G (jw_w (x3 + 2)))]) (st := []) dL_law_1082 rfl (Nat.le_of_ble_eq_true rfl) qX11_escapes jt_1056 jt_1057 jt_1058 rfl rfl (Nat.le_of_ble_eq_true rfl) jv_11 rfl jg_0 jl_0 (by decide) (jw_ho jg_0 (by decide)) (kX11_escapes G (jw_xq G (jw_w (x3 + 1))) (jw_xq G (jw_w (x3 + 2))) (jw_rI _) (jw_rI _) M) (fun v121 hv121 => ?_)
  refine jw_aloadR (pc := 1085) 2 dL_law_1085 rfl ?_
  refine jw_aloadQ (pc := 1086) 0 dL_law_1086 rfl ?_
  refine jw_iload_n (pc := 1087) 3 dL_law_1087 rfl ?_
  refine jw_iconst (pc := 1088) dL_law_1088 ?_
  refine jw_iadd (pc := 1089) dL_law_1089 ?_
  refine jw_qld (pc := 1090) dL_law_1090 (jw_wr _) ?_
  refine jw_aloadQ (pc := 1091) 0 dL_law_1091 rfl ?_
  refine jw_iload_n (pc := 1092) 3 dL_law_1092 rfl ?_
  refine jw_iconst (pc := 1093) dL_law_1093 ?_
  refine jw_iadd (pc := 1094) dL_law_1094 ?_
  refine jw_qld (pc := 1095) dL_law_1095 (jw_wr _) ?_
  refine jw_callVMl (pc := 1096) (As := [jI (jw_xq G (jw_w (x3 + 1))), jI (jw_xq G (jw_w (x3 + 2)))]) (st := [jL v121]) dL_law_1096 rfl (Nat.le_of_ble_eq_true rfl) qX12_escapes jt_1653 jt_1654 jt_1655 rfl rfl (Nat.le_of_ble_eq_true rfl) jv_12 rfl jg_127 jl_127 (by decide) (jw_ho jg_127 (by decide)) (kX12_escapes G (jw_xq G (jw_w (x3 + 1))) (jw_xq G (jw_w (x3 + 2))) (jw_rI _) (jw_rI _) M) (fun v122 M123 hv122 => ?_)
  refine jw_lcmp (pc := 1099) dL_law_1099 hv121 hv122 ?_
  refine jw_if_eq (pc := 1100) 1475 dL_law_1100 (by decide) (jw_cmpr _ _) (fun _ => ?_) (fun _ => ?_)
  · exact jw_few [0, 1, 2, 3] rfl (pL_law_1475 G nm hL r18 hr18 x3 hx3 M123)
  · refine jw_iconst (pc := 1103) dL_law_1103 ?_
    exact jw_ret (pc := 1104) (v := 0) dL_law_1104 (Or.inl rfl) rfl rfl
def fL_law_1105 (G : jw_G) (r18 : Int → jw_M → Option (Int × jw_M)) (x3 : Int) (M : jw_M) : Option (Int × jw_M) :=
  if 0 ≤ jw_w (x3 + 1) ∧ jw_w (x3 + 1) < jw_Ln G then if 0 ≤ jw_w (x3 + 2) ∧ jw_w (x3 + 2) < jw_Ln G then jw_b2 (fX11_value (jw_xq G (jw_w (x3 + 1))) (jw_xq G (jw_w (x3 + 2))) M) (fun v125 M126 => if 0 ≤ jw_w (x3 + 1) ∧ jw_w (x3 + 1) < jw_Ln G then if 0 ≤ jw_w (x3 + 2) ∧ jw_w (x3 + 2) < jw_Ln G then jw_b2 (fX12_value (jw_xq G (jw_w (x3 + 1))) (jw_xq G (jw_w (x3 + 2))) M126) (fun v127 M128 => if jw_cmp v125 v127 = 0 then (fL_law_1475 G r18 x3 M128) else (some (0, M128))) else none else none) else none else none
set_option maxRecDepth 100000 in
set_option maxHeartbeats 4000000 in
theorem pL_law_1105 (G : jw_G) (nm : String) (hL : jw_gL G ≤ 384) (r18 : Int → jw_M → Option (Int × jw_M)) (hr18 : ∀ (x3 : Int) (hx3 : jw_r x3) (M : jw_M), jw_Rn G (YL_law nm) 32 0 0 true (fun q => q) 18 [(0, jQ G), (1, jR G 0), (2, jR G 127), (3, jI x3)] [] M (r18 x3 M)) : ∀ (x3 : Int) (hx3 : jw_r x3) (M : jw_M), jw_Rn G (YL_law nm) 32 0 0 true (fun q => q) 1105 [(0, jQ G), (1, jR G 0), (2, jR G 127), (3, jI x3)] [] M (fL_law_1105 G r18 x3 M) := by
  intro x3 hx3 M
  unfold fL_law_1105
  refine jw_aloadR (pc := 1105) 1 dL_law_1105 rfl ?_
  refine jw_aloadQ (pc := 1106) 0 dL_law_1106 rfl ?_
  refine jw_iload_n (pc := 1107) 3 dL_law_1107 rfl ?_
  refine jw_iconst (pc := 1108) dL_law_1108 ?_
  refine jw_iadd (pc := 1109) dL_law_1109 ?_
  refine jw_qld (pc := 1110) dL_law_1110 (jw_wr _) ?_
  refine jw_aloadQ (pc := 1111) 0 dL_law_1111 rfl ?_
  refine jw_iload_n (pc := 1112) 3 dL_law_1112 rfl ?_
  refine jw_iconst (pc := 1113) dL_law_1113 ?_
  refine jw_iadd (pc := 1114) dL_law_1114 ?_
  refine jw_qld (pc := 1115) dL_law_1115 (jw_wr _) ?_
  refine jw_callVMl (pc := 1116) (As := [jI (jw_xq G (jw_w (x3 + 1))), jI (jw_xq G (jw_w (x3 + 2)))]) (st := []) dL_law_1116 rfl (Nat.le_of_ble_eq_true rfl) qX11_value jt_1073 jt_1074 jt_1075 rfl rfl (Nat.le_of_ble_eq_true rfl) jv_11 rfl jg_0 jl_0 (by decide) (jw_ho jg_0 (by decide)) (kX11_value G (jw_xq G (jw_w (x3 + 1))) (jw_xq G (jw_w (x3 + 2))) (jw_rI _) (jw_rI _) M) (fun v125 M126 hv125 => ?_)
  refine jw_aloadR (pc := 1119) 2 dL_law_1119 rfl ?_
  refine jw_aloadQ (pc := 1120) 0 dL_law_1120 rfl ?_
  refine jw_iload_n (pc := 1121) 3 dL_law_1121 rfl ?_
  refine jw_iconst (pc := 1122) dL_law_1122 ?_
  refine jw_iadd (pc := 1123) dL_law_1123 ?_
  refine jw_qld (pc := 1124) dL_law_1124 (jw_wr _) ?_
  refine jw_aloadQ (pc := 1125) 0 dL_law_1125 rfl ?_
  refine jw_iload_n (pc := 1126) 3 dL_law_1126 rfl ?_
  refine jw_iconst (pc := 1127) dL_law_1127 ?_
  refine jw_iadd (pc := 1128) dL_law_1128 ?_
  refine jw_qld (pc := 1129) dL_law_1129 (jw_wr _) ?_
  refine jw_callVMl (pc := 1130) (As := [jI (jw_xq G (jw_w (x3 + 1))), jI (jw_xq G (jw_w (x3 + 2)))]) (st := [jL v125]) dL_law_1130 rfl (Nat.le_of_ble_eq_true rfl) qX12_value jt_1665 jt_1666 jt_1667 rfl rfl (Nat.le_of_ble_eq_true rfl) jv_12 rfl jg_127 jl_127 (by decide) (jw_ho jg_127 (by decide)) (kX12_value G (jw_xq G (jw_w (x3 + 1))) (jw_xq G (jw_w (x3 + 2))) (jw_rI _) (jw_rI _) M126) (fun v127 M128 hv127 => ?_)
  refine jw_lcmp (pc := 1133) dL_law_1133 hv125 hv127 ?_
  refine jw_if_eq (pc := 1134) 1475 dL_law_1134 (by decide) (jw_cmpr _ _) (fun _ => ?_) (fun _ => ?_)
  · exact jw_few [0, 1, 2, 3] rfl (pL_law_1475 G nm hL r18 hr18 x3 hx3 M128)
  · refine jw_iconst (pc := 1137) dL_law_1137 ?_
    exact jw_ret (pc := 1138) (v := 0) dL_law_1138 (Or.inl rfl) rfl rfl
def fL_law_1139 (G : jw_G) (r18 : Int → jw_M → Option (Int × jw_M)) (x3 : Int) (M : jw_M) : Option (Int × jw_M) :=
  if 0 ≤ jw_w (x3 + 1) ∧ jw_w (x3 + 1) < jw_Ln G then if 0 ≤ jw_w (x3 + 2) ∧ jw_w (x3 + 2) < jw_Ln G then if 0 ≤ jw_w (x3 + 3) ∧ jw_w (x3 + 3) < jw_Ln G then jw_b2 (fX11_odds (jw_xq G (jw_w (x3 + 1))) (jw_xq G (jw_w (x3 + 2))) (jw_xq G (jw_w (x3 + 3))) M) (fun v130 M131 => if 0 ≤ jw_w (x3 + 1) ∧ jw_w (x3 + 1) < jw_Ln G then if 0 ≤ jw_w (x3 + 2) ∧ jw_w (x3 + 2) < jw_Ln G then if 0 ≤ jw_w (x3 + 3) ∧ jw_w (x3 + 3) < jw_Ln G then jw_b2 (fX12_odds (jw_xq G (jw_w (x3 + 1))) (jw_xq G (jw_w (x3 + 2))) (jw_xq G (jw_w (x3 + 3))) M131) (fun v132 M133 => if jw_cmp v130 v132 = 0 then (fL_law_1475 G r18 x3 M133) else (some (0, M133))) else none else none else none) else none else none else none
set_option maxRecDepth 100000 in
set_option maxHeartbeats 4000000 in
theorem pL_law_1139 (G : jw_G) (nm : String) (hL : jw_gL G ≤ 384) (r18 : Int → jw_M → Option (Int × jw_M)) (hr18 : ∀ (x3 : Int) (hx3 : jw_r x3) (M : jw_M), jw_Rn G (YL_law nm) 32 0 0 true (fun q => q) 18 [(0, jQ G), (1, jR G 0), (2, jR G 127), (3, jI x3)] [] M (r18 x3 M)) : ∀ (x3 : Int) (hx3 : jw_r x3) (M : jw_M), jw_Rn G (YL_law nm) 32 0 0 true (fun q => q) 1139 [(0, jQ G), (1, jR G 0), (2, jR G 127), (3, jI x3)] [] M (fL_law_1139 G r18 x3 M) := by
  intro x3 hx3 M
  unfold fL_law_1139
  refine jw_aloadR (pc := 1139) 1 dL_law_1139 rfl ?_
  refine jw_aloadQ (pc := 1140) 0 dL_law_1140 rfl ?_
  refine jw_iload_n (pc := 1141) 3 dL_law_1141 rfl ?_
  refine jw_iconst (pc := 1142) dL_law_1142 ?_
  refine jw_iadd (pc := 1143) dL_law_1143 ?_
  refine jw_qld (pc := 1144) dL_law_1144 (jw_wr _) ?_
  refine jw_aloadQ (pc := 1145) 0 dL_law_1145 rfl ?_
  refine jw_iload_n (pc := 1146) 3 dL_law_1146 rfl ?_
  refine jw_iconst (pc := 1147) dL_law_1147 ?_
  refine jw_iadd (pc := 1148) dL_law_1148 ?_
  refine jw_qld (pc := 1149) dL_law_1149 (jw_wr _) ?_
  refine jw_aloadQ (pc := 1150) 0 dL_law_1150 rfl ?_
  refine jw_iload_n (pc := 1151) 3 dL_law_1151 rfl ?_
  refine jw_iconst (pc := 1152) dL_law_1152 ?_
  refine jw_iadd (pc := 1153) dL_law_1153 ?_
  refine jw_qld (pc := 1154) dL_law_1154 (jw_wr _) ?_
  refine jw_callVMl (pc := 1155) (As := [jI (jw_xq G (jw_w (x3 + 1))), jI (jw_xq G (jw_w (x3 + 2))), jI (jw_xq G (jw_w (x3 + 3)))]) (st := []) dL_law_1155 rfl (Nat.le_of_ble_eq_true rfl) qX11_odds jt_1085 jt_1086 jt_1087 rfl rfl (Nat.le_of_ble_eq_true rfl) jv_11 rfl jg_0 jl_0 (by decide) (jw_ho jg_0 (by decide)) (kX11_odds G (jw_xq G (jw_w (x3 + 1))) (jw_xq G (jw_w (x3 + 2))) (jw_xq G (jw_w (x3 + 3))) (jw_rI _) (jw_rI _) (jw_rI _) M) (fun v130 M131 hv130 => ?_)
  refine jw_aloadR (pc := 1158) 2 dL_law_1158 rfl ?_
  refine jw_aloadQ (pc := 1159) 0 dL_law_1159 rfl ?_
  refine jw_iload_n (pc := 1160) 3 dL_law_1160 rfl ?_
  refine jw_iconst (pc := 1161) dL_law_1161 ?_
  refine jw_iadd (pc := 1162) dL_law_1162 ?_
  refine jw_qld (pc := 1163) dL_law_1163 (jw_wr _) ?_
  refine jw_aloadQ (pc := 1164) 0 dL_law_1164 rfl ?_
  refine jw_iload_n (pc := 1165) 3 dL_law_1165 rfl ?_
  refine jw_iconst (pc := 1166) dL_law_1166 ?_
  refine jw_iadd (pc := 1167) dL_law_1167 ?_
  refine jw_qld (pc := 1168) dL_law_1168 (jw_wr _) ?_
  refine jw_aloadQ (pc := 1169) 0 dL_law_1169 rfl ?_
  refine jw_iload_n (pc := 1170) 3 dL_law_1170 rfl ?_
  refine jw_iconst (pc := 1171) dL_law_1171 ?_
  refine jw_iadd (pc := 1172) dL_law_1172 ?_
  refine jw_qld (pc := 1173) dL_law_1173 (jw_wr _) ?_
  refine jw_callVMl (pc := 1174) (As := [jI (jw_xq G (jw_w (x3 + 1))), jI (jw_xq G (jw_w (x3 + 2))), jI (jw_xq G (jw_w (x3 + 3)))]) (st := [jL v130]) dL_law_1174 rfl (Nat.le_of_ble_eq_true rfl) qX12_odds jt_1682 jt_1683 jt_1684 rfl rfl (Nat.le_of_ble_eq_true rfl) jv_12 rfl jg_127 jl_127 (by decide) (jw_ho jg_127 (by decide)) (kX12_odds G (jw_xq G (jw_w (x3 + 1))) (jw_xq G (jw_w (x3 + 2))) (jw_xq G (jw_w (x3 + 3))) (jw_rI _) (jw_rI _) (jw_rI _) M131) (fun v132 M133 hv132 => ?_)
  refine jw_lcmp (pc := 1177) dL_law_1177 hv130 hv132 ?_
  refine jw_if_eq (pc := 1178) 1475 dL_law_1178 (by decide) (jw_cmpr _ _) (fun _ => ?_) (fun _ => ?_)
  · exact jw_few [0, 1, 2, 3] rfl (pL_law_1475 G nm hL r18 hr18 x3 hx3 M133)
  · refine jw_iconst (pc := 1181) dL_law_1181 ?_
    exact jw_ret (pc := 1182) (v := 0) dL_law_1182 (Or.inl rfl) rfl rfl
def fL_law_1183 (G : jw_G) (r18 : Int → jw_M → Option (Int × jw_M)) (x3 : Int) (M : jw_M) : Option (Int × jw_M) :=
  if 0 ≤ jw_w (x3 + 1) ∧ jw_w (x3 + 1) < jw_Ln G then if 0 ≤ jw_w (x3 + 2) ∧ jw_w (x3 + 2) < jw_Ln G then if 0 ≤ jw_w (x3 + 3) ∧ jw_w (x3 + 3) < jw_Ln G then jw_b2 (fX11_owe (jw_xq G (jw_w (x3 + 1))) (jw_xq G (jw_w (x3 + 2))) (jw_xq G (jw_w (x3 + 3))) M) (fun v135 M136 => if 0 ≤ jw_w (x3 + 1) ∧ jw_w (x3 + 1) < jw_Ln G then if 0 ≤ jw_w (x3 + 2) ∧ jw_w (x3 + 2) < jw_Ln G then if 0 ≤ jw_w (x3 + 3) ∧ jw_w (x3 + 3) < jw_Ln G then jw_b2 (fX12_owe (jw_xq G (jw_w (x3 + 1))) (jw_xq G (jw_w (x3 + 2))) (jw_xq G (jw_w (x3 + 3))) M136) (fun v137 M138 => if jw_cmp v135 v137 = 0 then (fL_law_1475 G r18 x3 M138) else (some (0, M138))) else none else none else none) else none else none else none
set_option maxRecDepth 100000 in
set_option maxHeartbeats 4000000 in
theorem pL_law_1183 (G : jw_G) (nm : String) (hL : jw_gL G ≤ 384) (r18 : Int → jw_M → Option (Int × jw_M)) (hr18 : ∀ (x3 : Int) (hx3 : jw_r x3) (M : jw_M), jw_Rn G (YL_law nm) 32 0 0 true (fun q => q) 18 [(0, jQ G), (1, jR G 0), (2, jR G 127), (3, jI x3)] [] M (r18 x3 M)) : ∀ (x3 : Int) (hx3 : jw_r x3) (M : jw_M), jw_Rn G (YL_law nm) 32 0 0 true (fun q => q) 1183 [(0, jQ G), (1, jR G 0), (2, jR G 127), (3, jI x3)] [] M (fL_law_1183 G r18 x3 M) := by
  intro x3 hx3 M
  unfold fL_law_1183
  refine jw_aloadR (pc := 1183) 1 dL_law_1183 rfl ?_
  refine jw_aloadQ (pc := 1184) 0 dL_law_1184 rfl ?_
  refine jw_iload_n (pc := 1185) 3 dL_law_1185 rfl ?_
  refine jw_iconst (pc := 1186) dL_law_1186 ?_
  refine jw_iadd (pc := 1187) dL_law_1187 ?_
  refine jw_qld (pc := 1188) dL_law_1188 (jw_wr _) ?_
  refine jw_aloadQ (pc := 1189) 0 dL_law_1189 rfl ?_
  refine jw_iload_n (pc := 1190) 3 dL_law_1190 rfl ?_
  refine jw_iconst (pc := 1191) dL_law_1191 ?_
  refine jw_iadd (pc := 1192) dL_law_1192 ?_
  refine jw_qld (pc := 1193) dL_law_1193 (jw_wr _) ?_
  refine jw_aloadQ (pc := 1194) 0 dL_law_1194 rfl ?_
  refine jw_iload_n (pc := 1195) 3 dL_law_1195 rfl ?_
  refine jw_iconst (pc := 1196) dL_law_1196 ?_
  refine jw_iadd (pc := 1197) dL_law_1197 ?_
  refine jw_qld (pc := 1198) dL_law_1198 (jw_wr _) ?_
  refine jw_callVMl (pc := 1199) (As := [jI (jw_xq G (jw_w (x3 + 1))), jI (jw_xq G (jw_w (x3 + 2))), jI (jw_xq G (jw_w (x3 + 3)))]) (st := []) dL_law_1199 rfl (Nat.le_of_ble_eq_true rfl) qX11_owe jt_1096 jt_1097 jt_1098 rfl rfl (Nat.le_of_ble_eq_true rfl) jv_11 rfl jg_0 jl_0 (by decide) (jw_ho jg_0 (by decide)) (kX11_owe G (jw_xq G (jw_w (x3 + 1))) (jw_xq G (jw_w (x3 + 2))) (jw_xq G (jw_w (x3 + 3))) (jw_rI _) (jw_rI _) (jw_rI _) M) (fun v135 M136 hv135 => ?_)
  refine jw_aloadR (pc := 1202) 2 dL_law_1202 rfl ?_
  refine jw_aloadQ (pc := 1203) 0 dL_law_1203 rfl ?_
  refine jw_iload_n (pc := 1204) 3 dL_law_1204 rfl ?_
  refine jw_iconst (pc := 1205) dL_law_1205 ?_
  refine jw_iadd (pc := 1206) dL_law_1206 ?_
  refine jw_qld (pc := 1207) dL_law_1207 (jw_wr _) ?_
  refine jw_aloadQ (pc := 1208) 0 dL_law_1208 rfl ?_
  refine jw_iload_n (pc := 1209) 3 dL_law_1209 rfl ?_
  refine jw_iconst (pc := 1210) dL_law_1210 ?_
  refine jw_iadd (pc := 1211) dL_law_1211 ?_
  refine jw_qld (pc := 1212) dL_law_1212 (jw_wr _) ?_
  refine jw_aloadQ (pc := 1213) 0 dL_law_1213 rfl ?_
  refine jw_iload_n (pc := 1214) 3 dL_law_1214 rfl ?_
  refine jw_iconst (pc := 1215) dL_law_1215 ?_
  refine jw_iadd (pc := 1216) dL_law_1216 ?_
  refine jw_qld (pc := 1217) dL_law_1217 (jw_wr _) ?_
  refine jw_callVMl (pc := 1218) (As := [jI (jw_xq G (jw_w (x3 + 1))), jI (jw_xq G (jw_w (x3 + 2))), jI (jw_xq G (jw_w (x3 + 3)))]) (st := [jL v135]) dL_law_1218 rfl (Nat.le_of_ble_eq_true rfl) qX12_owe jt_1686 jt_1687 jt_1688 rfl rfl (Nat.le_of_ble_eq_true rfl) jv_12 rfl jg_127 jl_127 (by decide) (jw_ho jg_127 (by decide)) (kX12_owe G (jw_xq G (jw_w (x3 + 1))) (jw_xq G (jw_w (x3 + 2))) (jw_xq G (jw_w (x3 + 3))) (jw_rI _) (jw_rI _) (jw_rI _) M136) (fun v137 M138 hv137 => ?_)
  refine jw_lcmp (pc := 1221) dL_law_1221 hv135 hv137 ?_
  refine jw_if_eq (pc := 1222) 1475 dL_law_1222 (by decide) (jw_cmpr _ _) (fun _ => ?_) (fun _ => ?_)
  · exact jw_few [0, 1, 2, 3] rfl (pL_law_1475 G nm hL r18 hr18 x3 hx3 M138)
  · refine jw_iconst (pc := 1225) dL_law_1225 ?_
    exact jw_ret (pc := 1226) (v := 0) dL_law_1226 (Or.inl rfl) rfl rfl
def fL_law_1227 (G : jw_G) (r18 : Int → jw_M → Option (Int × jw_M)) (x3 : Int) (M : jw_M) : Option (Int × jw_M) :=
  if 0 ≤ jw_w (x3 + 1) ∧ jw_w (x3 + 1) < jw_Ln G then if 0 ≤ jw_w (x3 + 2) ∧ jw_w (x3 + 2) < jw_Ln G then Option.bind (fX11_owed (jw_xq G (jw_w (x3 + 1))) (jw_xq G (jw_w (x3 + 2))) M) (fun v140 => if 0 ≤ jw_w (x3 + 1) ∧ jw_w (x3 + 1) < jw_Ln G then if 0 ≤ jw_w (x3 + 2) ∧ jw_w (x3 + 2) < jw_Ln G then jw_b2 (fX12_owed (jw_xq G (jw_w (x3 + 1))) (jw_xq G (jw_w (x3 + 2))) M) (fun v141 M142 => if jw_cmp v140 v141 = 0 then (fL_law_1475 G r18 x3 M142) else (some (0, M142))) else none else none) else none else none
set_option maxRecDepth 100000 in
set_option maxHeartbeats 4000000 in
theorem pL_law_1227 (G : jw_G) (nm : String) (hL : jw_gL G ≤ 384) (r18 : Int → jw_M → Option (Int × jw_M)) (hr18 : ∀ (x3 : Int) (hx3 : jw_r x3) (M : jw_M), jw_Rn G (YL_law nm) 32 0 0 true (fun q => q) 18 [(0, jQ G), (1, jR G 0), (2, jR G 127), (3, jI x3)] [] M (r18 x3 M)) : ∀ (x3 : Int) (hx3 : jw_r x3) (M : jw_M), jw_Rn G (YL_law nm) 32 0 0 true (fun q => q) 1227 [(0, jQ G), (1, jR G 0), (2, jR G 127), (3, jI x3)] [] M (fL_law_1227 G r18 x3 M) := by
  intro x3 hx3 M
  unfold fL_law_1227
  refine jw_aloadR (pc := 1227) 1 dL_law_1227 rfl ?_
  refine jw_aloadQ (pc := 1228) 0 dL_law_1228 rfl ?_
  refine jw_iload_n (pc := 1229) 3 dL_law_1229 rfl ?_
  refine jw_iconst (pc := 1230) dL_law_1230 ?_
  refine jw_iadd (pc := 1231) dL_law_1231 ?_
  refine jw_qld (pc := 1232) dL_law_1232 (jw_wr _) ?_
  refine jw_aloadQ (pc := 1233) 0 dL_law_1233 rfl ?_
  refine jw_iload_n (pc := 1234) 3 dL_law_1234 rfl ?_
  refine jw_iconst (pc := 1235) dL_law_1235 ?_
  refine jw_iadd (pc := 1236) dL_law_1236 ?_
  refine jw_qld (pc := 1237) dL_law_1237 (jw_wr _) ?_
  refine jw_callVl (pc := 1238) (As := [jI (jw_xq G (jw_w (x3 + 1))), jI (jw_xq G (jw_w (x3 + 2)))]) (st := []) dL_law_1238 rfl (Nat.le_of_ble_eq_true rfl) qX11_owed jt_1112 jt_1113 jt_1114 rfl rfl (Nat.le_of_ble_eq_true rfl) jv_11 rfl jg_0 jl_0 (by decide) (jw_ho jg_0 (by decide)) (kX11_owed G (jw_xq G (jw_w (x3 + 1))) (jw_xq G (jw_w (x3 + 2))) (jw_rI _) (jw_rI _) M) (fun v140 hv140 => ?_)
  refine jw_aloadR (pc := 1241) 2 dL_law_1241 rfl ?_
  refine jw_aloadQ (pc := 1242) 0 dL_law_1242 rfl ?_
  refine jw_iload_n (pc := 1243) 3 dL_law_1243 rfl ?_
  refine jw_iconst (pc := 1244) dL_law_1244 ?_
  refine jw_iadd (pc := 1245) dL_law_1245 ?_
  refine jw_qld (pc := 1246) dL_law_1246 (jw_wr _) ?_
  refine jw_aloadQ (pc := 1247) 0 dL_law_1247 rfl ?_
  refine jw_iload_n (pc := 1248) 3 dL_law_1248 rfl ?_
  refine jw_iconst (pc := 1249) dL_law_1249 ?_
  refine jw_iadd (pc := 1250) dL_law_1250 ?_
  refine jw_qld (pc := 1251) dL_law_1251 (jw_wr _) ?_
  refine jw_callVMl (pc := 1252) (As := [jI (jw_xq G (jw_w (x3 + 1))), jI (jw_xq G (jw_w (x3 + 2)))]) (st := [jL v140]) dL_law_1252 rfl (Nat.le_of_ble_eq_true rfl) qX12_owed jt_1694 jt_1695 jt_1696 rfl rfl (Nat.le_of_ble_eq_true rfl) jv_12 rfl jg_127 jl_127 (by decide) (jw_ho jg_127 (by decide)) (kX12_owed G (jw_xq G (jw_w (x3 + 1))) (jw_xq G (jw_w (x3 + 2))) (jw_rI _) (jw_rI _) M) (fun v141 M142 hv141 => ?_)
  refine jw_lcmp (pc := 1255) dL_law_1255 hv140 hv141 ?_
  refine jw_if_eq (pc := 1256) 1475 dL_law_1256 (by decide) (jw_cmpr _ _) (fun _ => ?_) (fun _ => ?_)
  · exact jw_few [0, 1, 2, 3] rfl (pL_law_1475 G nm hL r18 hr18 x3 hx3 M142)
  · refine jw_iconst (pc := 1259) dL_law_1259 ?_
    exact jw_ret (pc := 1260) (v := 0) dL_law_1260 (Or.inl rfl) rfl rfl
def fL_law_1261 (G : jw_G) (r18 : Int → jw_M → Option (Int × jw_M)) (x3 : Int) (M : jw_M) : Option (Int × jw_M) :=
  jw_b2 (fX11_passed  M) (fun v144 M145 => jw_b2 (fX12_passed  M145) (fun v146 M147 => if jw_cmp v144 v146 = 0 then (fL_law_1475 G r18 x3 M147) else (some (0, M147))))
set_option maxRecDepth 100000 in
set_option maxHeartbeats 4000000 in
theorem pL_law_1261 (G : jw_G) (nm : String) (hL : jw_gL G ≤ 384) (r18 : Int → jw_M → Option (Int × jw_M)) (hr18 : ∀ (x3 : Int) (hx3 : jw_r x3) (M : jw_M), jw_Rn G (YL_law nm) 32 0 0 true (fun q => q) 18 [(0, jQ G), (1, jR G 0), (2, jR G 127), (3, jI x3)] [] M (r18 x3 M)) : ∀ (x3 : Int) (hx3 : jw_r x3) (M : jw_M), jw_Rn G (YL_law nm) 32 0 0 true (fun q => q) 1261 [(0, jQ G), (1, jR G 0), (2, jR G 127), (3, jI x3)] [] M (fL_law_1261 G r18 x3 M) := by
  intro x3 hx3 M
  unfold fL_law_1261
  refine jw_aloadR (pc := 1261) 1 dL_law_1261 rfl ?_
  refine jw_callVMl (pc := 1262) (As := []) (st := []) dL_law_1262 rfl (Nat.le_of_ble_eq_true rfl) qX11_passed jt_1116 jt_1117 jt_1118 rfl rfl (Nat.le_of_ble_eq_true rfl) jv_11 rfl jg_0 jl_0 (by decide) (jw_ho jg_0 (by decide)) (kX11_passed G  M) (fun v144 M145 hv144 => ?_)
  refine jw_aloadR (pc := 1265) 2 dL_law_1265 rfl ?_
  refine jw_callVMl (pc := 1266) (As := []) (st := [jL v144]) dL_law_1266 rfl (Nat.le_of_ble_eq_true rfl) qX12_passed jt_1698 jt_1699 jt_1700 rfl rfl (Nat.le_of_ble_eq_true rfl) jv_12 rfl jg_127 jl_127 (by decide) (jw_ho jg_127 (by decide)) (kX12_passed G  M145) (fun v146 M147 hv146 => ?_)
  refine jw_lcmp (pc := 1269) dL_law_1269 hv144 hv146 ?_
  refine jw_if_eq (pc := 1270) 1475 dL_law_1270 (by decide) (jw_cmpr _ _) (fun _ => ?_) (fun _ => ?_)
  · exact jw_few [0, 1, 2, 3] rfl (pL_law_1475 G nm hL r18 hr18 x3 hx3 M147)
  · refine jw_iconst (pc := 1273) dL_law_1273 ?_
    exact jw_ret (pc := 1274) (v := 0) dL_law_1274 (Or.inl rfl) rfl rfl
def fL_law_1275 (G : jw_G) (r18 : Int → jw_M → Option (Int × jw_M)) (x3 : Int) (M : jw_M) : Option (Int × jw_M) :=
  if 0 ≤ jw_w (x3 + 1) ∧ jw_w (x3 + 1) < jw_Ln G then jw_b2 (fX11_image (jw_xq G (jw_w (x3 + 1))) M) (fun v149 M150 => if 0 ≤ jw_w (x3 + 1) ∧ jw_w (x3 + 1) < jw_Ln G then jw_b2 (fX12_image (jw_xq G (jw_w (x3 + 1))) M150) (fun v151 M152 => if jw_cmp v149 v151 = 0 then (fL_law_1475 G r18 x3 M152) else (some (0, M152))) else none) else none
set_option maxRecDepth 100000 in
set_option maxHeartbeats 4000000 in
theorem pL_law_1275 (G : jw_G) (nm : String) (hL : jw_gL G ≤ 384) (r18 : Int → jw_M → Option (Int × jw_M)) (hr18 : ∀ (x3 : Int) (hx3 : jw_r x3) (M : jw_M), jw_Rn G (YL_law nm) 32 0 0 true (fun q => q) 18 [(0, jQ G), (1, jR G 0), (2, jR G 127), (3, jI x3)] [] M (r18 x3 M)) : ∀ (x3 : Int) (hx3 : jw_r x3) (M : jw_M), jw_Rn G (YL_law nm) 32 0 0 true (fun q => q) 1275 [(0, jQ G), (1, jR G 0), (2, jR G 127), (3, jI x3)] [] M (fL_law_1275 G r18 x3 M) := by
  intro x3 hx3 M
  unfold fL_law_1275
  refine jw_aloadR (pc := 1275) 1 dL_law_1275 rfl ?_
  refine jw_aloadQ (pc := 1276) 0 dL_law_1276 rfl ?_
  refine jw_iload_n (pc := 1277) 3 dL_law_1277 rfl ?_
  refine jw_iconst (pc := 1278) dL_law_1278 ?_
  refine jw_iadd (pc := 1279) dL_law_1279 ?_
  refine jw_qld (pc := 1280) dL_law_1280 (jw_wr _) ?_
  refine jw_callVMl (pc := 1281) (As := [jI (jw_xq G (jw_w (x3 + 1)))]) (st := []) dL_law_1281 rfl (Nat.le_of_ble_eq_true rfl) qX11_image jt_1147 jt_1148 jt_1149 rfl rfl (Nat.le_of_ble_eq_true rfl) jv_11 rfl jg_0 jl_0 (by decide) (jw_ho jg_0 (by decide)) (kX11_image G (jw_xq G (jw_w (x3 + 1))) (jw_rI _) M) (fun v149 M150 hv149 => ?_)
  refine jw_aloadR (pc := 1284) 2 dL_law_1284 rfl ?_
  refine jw_aloadQ (pc := 1285) 0 dL_law_1285 rfl ?_
  refine jw_iload_n (pc := 1286) 3 dL_law_1286 rfl ?_
  refine jw_iconst (pc := 1287) dL_law_1287 ?_
  refine jw_iadd (pc := 1288) dL_law_1288 ?_
  refine jw_qld (pc := 1289) dL_law_1289 (jw_wr _) ?_
  refine jw_callVMl (pc := 1290) (As := [jI (jw_xq G (jw_w (x3 + 1)))]) (st := [jL v149]) dL_law_1290 rfl (Nat.le_of_ble_eq_true rfl) qX12_image jt_1710 jt_1711 jt_1712 rfl rfl (Nat.le_of_ble_eq_true rfl) jv_12 rfl jg_127 jl_127 (by decide) (jw_ho jg_127 (by decide)) (kX12_image G (jw_xq G (jw_w (x3 + 1))) (jw_rI _) M150) (fun v151 M152 hv151 => ?_)
  refine jw_lcmp (pc := 1293) dL_law_1293 hv149 hv151 ?_
  refine jw_if_eq (pc := 1294) 1475 dL_law_1294 (by decide) (jw_cmpr _ _) (fun _ => ?_) (fun _ => ?_)
  · exact jw_few [0, 1, 2, 3] rfl (pL_law_1475 G nm hL r18 hr18 x3 hx3 M152)
  · refine jw_iconst (pc := 1297) dL_law_1297 ?_
    exact jw_ret (pc := 1298) (v := 0) dL_law_1298 (Or.inl rfl) rfl rfl
def fL_law_1299 (G : jw_G) (r18 : Int → jw_M → Option (Int × jw_M)) (x3 : Int) (M : jw_M) : Option (Int × jw_M) :=
  if 0 ≤ jw_w (x3 + 1) ∧ jw_w (x3 + 1) < jw_Ln G then jw_b2 (fX11_restore (jw_xq G (jw_w (x3 + 1))) M) (fun v154 M155 => if 0 ≤ jw_w (x3 + 1) ∧ jw_w (x3 + 1) < jw_Ln G then jw_b2 (fX12_restore (jw_xq G (jw_w (x3 + 1))) M155) (fun v156 M157 => if jw_cmp v154 v156 = 0 then (fL_law_1475 G r18 x3 M157) else (some (0, M157))) else none) else none
set_option maxRecDepth 100000 in
set_option maxHeartbeats 4000000 in
theorem pL_law_1299 (G : jw_G) (nm : String) (hL : jw_gL G ≤ 384) (r18 : Int → jw_M → Option (Int × jw_M)) (hr18 : ∀ (x3 : Int) (hx3 : jw_r x3) (M : jw_M), jw_Rn G (YL_law nm) 32 0 0 true (fun q => q) 18 [(0, jQ G), (1, jR G 0), (2, jR G 127), (3, jI x3)] [] M (r18 x3 M)) : ∀ (x3 : Int) (hx3 : jw_r x3) (M : jw_M), jw_Rn G (YL_law nm) 32 0 0 true (fun q => q) 1299 [(0, jQ G), (1, jR G 0), (2, jR G 127), (3, jI x3)] [] M (fL_law_1299 G r18 x3 M) := by
  intro x3 hx3 M
  unfold fL_law_1299
  refine jw_aloadR (pc := 1299) 1 dL_law_1299 rfl ?_
  refine jw_aloadQ (pc := 1300) 0 dL_law_1300 rfl ?_
  refine jw_iload_n (pc := 1301) 3 dL_law_1301 rfl ?_
  refine jw_iconst (pc := 1302) dL_law_1302 ?_
  refine jw_iadd (pc := 1303) dL_law_1303 ?_
  refine jw_qld (pc := 1304) dL_law_1304 (jw_wr _) ?_
  refine jw_callVMl (pc := 1305) (As := [jI (jw_xq G (jw_w (x3 + 1)))]) (st := []) dL_law_1305 rfl (Nat.le_of_ble_eq_true rfl) qX11_restore jt_1151 jt_1152 jt_1153 rfl rfl (Nat.le_of_ble_eq_true rfl) jv_11 rfl jg_0 jl_0 (by decide) (jw_ho jg_0 (by decide)) (kX11_restore G (jw_xq G (jw_w (x3 + 1))) (jw_rI _) M) (fun v154 M155 hv154 => ?_)
  refine jw_aloadR (pc := 1308) 2 dL_law_1308 rfl ?_
  refine jw_aloadQ (pc := 1309) 0 dL_law_1309 rfl ?_
  refine jw_iload_n (pc := 1310) 3 dL_law_1310 rfl ?_
  refine jw_iconst (pc := 1311) dL_law_1311 ?_
  refine jw_iadd (pc := 1312) dL_law_1312 ?_
  refine jw_qld (pc := 1313) dL_law_1313 (jw_wr _) ?_
  refine jw_callVMl (pc := 1314) (As := [jI (jw_xq G (jw_w (x3 + 1)))]) (st := [jL v154]) dL_law_1314 rfl (Nat.le_of_ble_eq_true rfl) qX12_restore jt_1714 jt_1715 jt_1716 rfl rfl (Nat.le_of_ble_eq_true rfl) jv_12 rfl jg_127 jl_127 (by decide) (jw_ho jg_127 (by decide)) (kX12_restore G (jw_xq G (jw_w (x3 + 1))) (jw_rI _) M155) (fun v156 M157 hv156 => ?_)
  refine jw_lcmp (pc := 1317) dL_law_1317 hv154 hv156 ?_
  refine jw_if_eq (pc := 1318) 1475 dL_law_1318 (by decide) (jw_cmpr _ _) (fun _ => ?_) (fun _ => ?_)
  · exact jw_few [0, 1, 2, 3] rfl (pL_law_1475 G nm hL r18 hr18 x3 hx3 M157)
  · refine jw_iconst (pc := 1321) dL_law_1321 ?_
    exact jw_ret (pc := 1322) (v := 0) dL_law_1322 (Or.inl rfl) rfl rfl
def fL_law_1323 (G : jw_G) (r18 : Int → jw_M → Option (Int × jw_M)) (x3 : Int) (M : jw_M) : Option (Int × jw_M) :=
  if 0 ≤ jw_w (x3 + 1) ∧ jw_w (x3 + 1) < jw_Ln G then Option.bind (fX11_kind (jw_xq G (jw_w (x3 + 1))) M) (fun v159 => if 0 ≤ jw_w (x3 + 1) ∧ jw_w (x3 + 1) < jw_Ln G then jw_b2 (fX12_kind (jw_xq G (jw_w (x3 + 1))) M) (fun v160 M161 => if jw_cmp v159 v160 = 0 then (fL_law_1475 G r18 x3 M161) else (some (0, M161))) else none) else none
set_option maxRecDepth 100000 in
set_option maxHeartbeats 4000000 in
theorem pL_law_1323 (G : jw_G) (nm : String) (hL : jw_gL G ≤ 384) (r18 : Int → jw_M → Option (Int × jw_M)) (hr18 : ∀ (x3 : Int) (hx3 : jw_r x3) (M : jw_M), jw_Rn G (YL_law nm) 32 0 0 true (fun q => q) 18 [(0, jQ G), (1, jR G 0), (2, jR G 127), (3, jI x3)] [] M (r18 x3 M)) : ∀ (x3 : Int) (hx3 : jw_r x3) (M : jw_M), jw_Rn G (YL_law nm) 32 0 0 true (fun q => q) 1323 [(0, jQ G), (1, jR G 0), (2, jR G 127), (3, jI x3)] [] M (fL_law_1323 G r18 x3 M) := by
  intro x3 hx3 M
  unfold fL_law_1323
  refine jw_aloadR (pc := 1323) 1 dL_law_1323 rfl ?_
  refine jw_aloadQ (pc := 1324) 0 dL_law_1324 rfl ?_
  refine jw_iload_n (pc := 1325) 3 dL_law_1325 rfl ?_
  refine jw_iconst (pc := 1326) dL_law_1326 ?_
  refine jw_iadd (pc := 1327) dL_law_1327 ?_
  refine jw_qld (pc := 1328) dL_law_1328 (jw_wr _) ?_
  refine jw_callVl (pc := 1329) (As := [jI (jw_xq G (jw_w (x3 + 1)))]) (st := []) dL_law_1329 rfl (Nat.le_of_ble_eq_true rfl) qX11_kind jt_1155 jt_1156 jt_1157 rfl rfl (Nat.le_of_ble_eq_true rfl) jv_11 rfl jg_0 jl_0 (by decide) (jw_ho jg_0 (by decide)) (kX11_kind G (jw_xq G (jw_w (x3 + 1))) (jw_rI _) M) (fun v159 hv159 => ?_)
  refine jw_aloadR (pc := 1332) 2 dL_law_1332 rfl ?_
  refine jw_aloadQ (pc := 1333) 0 dL_law_1333 rfl ?_
  refine jw_iload_n (pc := 1334) 3 dL_law_1334 rfl ?_
  refine jw_iconst (pc := 1335) dL_law_1335 ?_
  refine jw_iadd (pc := 1336) dL_law_1336 ?_
  refine jw_qld (pc := 1337) dL_law_1337 (jw_wr _) ?_
  refine jw_callVMl (pc := 1338) (As := [jI (jw_xq G (jw_w (x3 + 1)))]) (st := [jL v159]) dL_law_1338 rfl (Nat.le_of_ble_eq_true rfl) qX12_kind jt_1718 jt_1719 jt_1720 rfl rfl (Nat.le_of_ble_eq_true rfl) jv_12 rfl jg_127 jl_127 (by decide) (jw_ho jg_127 (by decide)) (kX12_kind G (jw_xq G (jw_w (x3 + 1))) (jw_rI _) M) (fun v160 M161 hv160 => ?_)
  refine jw_lcmp (pc := 1341) dL_law_1341 hv159 hv160 ?_
  refine jw_if_eq (pc := 1342) 1475 dL_law_1342 (by decide) (jw_cmpr _ _) (fun _ => ?_) (fun _ => ?_)
  · exact jw_few [0, 1, 2, 3] rfl (pL_law_1475 G nm hL r18 hr18 x3 hx3 M161)
  · refine jw_iconst (pc := 1345) dL_law_1345 ?_
    exact jw_ret (pc := 1346) (v := 0) dL_law_1346 (Or.inl rfl) rfl rfl
def fL_law_1347 (G : jw_G) (r18 : Int → jw_M → Option (Int × jw_M)) (x3 : Int) (M : jw_M) : Option (Int × jw_M) :=
  if 0 ≤ jw_w (x3 + 1) ∧ jw_w (x3 + 1) < jw_Ln G then if 0 ≤ jw_w (x3 + 2) ∧ jw_w (x3 + 2) < jw_Ln G then jw_b2 (fX11_as (jw_xq G (jw_w (x3 + 1))) (jw_xq G (jw_w (x3 + 2))) M) (fun v163 M164 => if 0 ≤ jw_w (x3 + 1) ∧ jw_w (x3 + 1) < jw_Ln G then if 0 ≤ jw_w (x3 + 2) ∧ jw_w (x3 + 2) < jw_Ln G then jw_b2 (fX12_as (jw_xq G (jw_w (x3 + 1))) (jw_xq G (jw_w (x3 + 2))) M164) (fun v165 M166 => if jw_cmp v163 v165 = 0 then (fL_law_1475 G r18 x3 M166) else (some (0, M166))) else none else none) else none else none
set_option maxRecDepth 100000 in
set_option maxHeartbeats 4000000 in
theorem pL_law_1347 (G : jw_G) (nm : String) (hL : jw_gL G ≤ 384) (r18 : Int → jw_M → Option (Int × jw_M)) (hr18 : ∀ (x3 : Int) (hx3 : jw_r x3) (M : jw_M), jw_Rn G (YL_law nm) 32 0 0 true (fun q => q) 18 [(0, jQ G), (1, jR G 0), (2, jR G 127), (3, jI x3)] [] M (r18 x3 M)) : ∀ (x3 : Int) (hx3 : jw_r x3) (M : jw_M), jw_Rn G (YL_law nm) 32 0 0 true (fun q => q) 1347 [(0, jQ G), (1, jR G 0), (2, jR G 127), (3, jI x3)] [] M (fL_law_1347 G r18 x3 M) := by
  intro x3 hx3 M
  unfold fL_law_1347
  refine jw_aloadR (pc := 1347) 1 dL_law_1347 rfl ?_
  refine jw_aloadQ (pc := 1348) 0 dL_law_1348 rfl ?_
  refine jw_iload_n (pc := 1349) 3 dL_law_1349 rfl ?_
  refine jw_iconst (pc := 1350) dL_law_1350 ?_
  refine jw_iadd (pc := 1351) dL_law_1351 ?_
  refine jw_qld (pc := 1352) dL_law_1352 (jw_wr _) ?_
  refine jw_aloadQ (pc := 1353) 0 dL_law_1353 rfl ?_
  refine jw_iload_n (pc := 1354) 3 dL_law_1354 rfl ?_
  refine jw_iconst (pc := 1355) dL_law_1355 ?_
  refine jw_iadd (pc := 1356) dL_law_1356 ?_
  refine jw_qld (pc := 1357) dL_law_1357 (jw_wr _) ?_
  refine jw_callVMl (pc := 1358) (As := [jI (jw_xq G (jw_w (x3 + 1))), jI (jw_xq G (jw_w (x3 + 2)))]) (st := []) dL_law_1358 rfl (Nat.le_of_ble_eq_true rfl) qX11_as jt_1164 jt_1165 jt_1166 rfl rfl (Nat.le_of_ble_eq_true rfl) jv_11 rfl jg_0 jl_0 (by decide) (jw_ho jg_0 (by decide)) (kX11_as G (jw_xq G (jw_w (x3 + 1))) (jw_xq G (jw_w (x3 + 2))) (jw_rI _) (jw_rI _) M) (fun v163 M164 hv163 => ?_)
  refine jw_aloadR (pc := 1361) 2 dL_law_1361 rfl ?_
  refine jw_aloadQ (pc := 1362) 0 dL_law_1362 rfl ?_
  refine jw_iload_n (pc := 1363) 3 dL_law_1363 rfl ?_
  refine jw_iconst (pc := 1364) dL_law_1364 ?_
  refine jw_iadd (pc := 1365) dL_law_1365 ?_
  refine jw_qld (pc := 1366) dL_law_1366 (jw_wr _) ?_
  refine jw_aloadQ (pc := 1367) 0 dL_law_1367 rfl ?_
  refine jw_iload_n (pc := 1368) 3 dL_law_1368 rfl ?_
  refine jw_iconst (pc := 1369) dL_law_1369 ?_
  refine jw_iadd (pc := 1370) dL_law_1370 ?_
  refine jw_qld (pc := 1371) dL_law_1371 (jw_wr _) ?_
  refine jw_callVMl (pc := 1372) (As := [jI (jw_xq G (jw_w (x3 + 1))), jI (jw_xq G (jw_w (x3 + 2)))]) (st := [jL v163]) dL_law_1372 rfl (Nat.le_of_ble_eq_true rfl) qX12_as jt_1726 jt_1727 jt_1728 rfl rfl (Nat.le_of_ble_eq_true rfl) jv_12 rfl jg_127 jl_127 (by decide) (jw_ho jg_127 (by decide)) (kX12_as G (jw_xq G (jw_w (x3 + 1))) (jw_xq G (jw_w (x3 + 2))) (jw_rI _) (jw_rI _) M164) (fun v165 M166 hv165 => ?_)
  refine jw_lcmp (pc := 1375) dL_law_1375 hv163 hv165 ?_
  refine jw_if_eq (pc := 1376) 1475 dL_law_1376 (by decide) (jw_cmpr _ _) (fun _ => ?_) (fun _ => ?_)
  · exact jw_few [0, 1, 2, 3] rfl (pL_law_1475 G nm hL r18 hr18 x3 hx3 M166)
  · refine jw_iconst (pc := 1379) dL_law_1379 ?_
    exact jw_ret (pc := 1380) (v := 0) dL_law_1380 (Or.inl rfl) rfl rfl
def fL_law_1381 (G : jw_G) (r18 : Int → jw_M → Option (Int × jw_M)) (x3 : Int) (M : jw_M) : Option (Int × jw_M) :=
  if 0 ≤ jw_w (x3 + 1) ∧ jw_w (x3 + 1) < jw_Ln G then if 0 ≤ jw_w (x3 + 2) ∧ jw_w (x3 + 2) < jw_Ln G then jw_b2 (fX11_ask (jw_xq G (jw_w (x3 + 1))) (jw_xq G (jw_w (x3 + 2))) M) (fun v168 M169 => if 0 ≤ jw_w (x3 + 1) ∧ jw_w (x3 + 1) < jw_Ln G then if 0 ≤ jw_w (x3 + 2) ∧ jw_w (x3 + 2) < jw_Ln G then jw_b2 (fX12_ask (jw_xq G (jw_w (x3 + 1))) (jw_xq G (jw_w (x3 + 2))) M169) (fun v170 M171 => if jw_cmp v168 v170 = 0 then (fL_law_1475 G r18 x3 M171) else (some (0, M171))) else none else none) else none else none
set_option maxRecDepth 100000 in
set_option maxHeartbeats 4000000 in
theorem pL_law_1381 (G : jw_G) (nm : String) (hL : jw_gL G ≤ 384) (r18 : Int → jw_M → Option (Int × jw_M)) (hr18 : ∀ (x3 : Int) (hx3 : jw_r x3) (M : jw_M), jw_Rn G (YL_law nm) 32 0 0 true (fun q => q) 18 [(0, jQ G), (1, jR G 0), (2, jR G 127), (3, jI x3)] [] M (r18 x3 M)) : ∀ (x3 : Int) (hx3 : jw_r x3) (M : jw_M), jw_Rn G (YL_law nm) 32 0 0 true (fun q => q) 1381 [(0, jQ G), (1, jR G 0), (2, jR G 127), (3, jI x3)] [] M (fL_law_1381 G r18 x3 M) := by
  intro x3 hx3 M
  unfold fL_law_1381
  refine jw_aloadR (pc := 1381) 1 dL_law_1381 rfl ?_
  refine jw_aloadQ (pc := 1382) 0 dL_law_1382 rfl ?_
  refine jw_iload_n (pc := 1383) 3 dL_law_1383 rfl ?_
  refine jw_iconst (pc := 1384) dL_law_1384 ?_
  refine jw_iadd (pc := 1385) dL_law_1385 ?_
  refine jw_qld (pc := 1386) dL_law_1386 (jw_wr _) ?_
  refine jw_aloadQ (pc := 1387) 0 dL_law_1387 rfl ?_
  refine jw_iload_n (pc := 1388) 3 dL_law_1388 rfl ?_
  refine jw_iconst (pc := 1389) dL_law_1389 ?_
  refine jw_iadd (pc := 1390) dL_law_1390 ?_
  refine jw_qld (pc := 1391) dL_law_1391 (jw_wr _) ?_
  refine jw_callVMl (pc := 1392) (As := [jI (jw_xq G (jw_w (x3 + 1))), jI (jw_xq G (jw_w (x3 + 2)))]) (st := []) dL_law_1392 rfl (Nat.le_of_ble_eq_true rfl) qX11_ask jt_1171 jt_1172 jt_1173 rfl rfl (Nat.le_of_ble_eq_true rfl) jv_11 rfl jg_0 jl_0 (by decide) (jw_ho jg_0 (by decide)) (kX11_ask G (jw_xq G (jw_w (x3 + 1))) (jw_xq G (jw_w (x3 + 2))) (jw_rI _) (jw_rI _) M) (fun v168 M169 hv168 => ?_)
  refine jw_aloadR (pc := 1395) 2 dL_law_1395 rfl ?_
  refine jw_aloadQ (pc := 1396) 0 dL_law_1396 rfl ?_
  refine jw_iload_n (pc := 1397) 3 dL_law_1397 rfl ?_
  refine jw_iconst (pc := 1398) dL_law_1398 ?_
  refine jw_iadd (pc := 1399) dL_law_1399 ?_
  refine jw_qld (pc := 1400) dL_law_1400 (jw_wr _) ?_
  refine jw_aloadQ (pc := 1401) 0 dL_law_1401 rfl ?_
  refine jw_iload_n (pc := 1402) 3 dL_law_1402 rfl ?_
  refine jw_iconst (pc := 1403) dL_law_1403 ?_
  refine jw_iadd (pc := 1404) dL_law_1404 ?_
  refine jw_qld (pc := 1405) dL_law_1405 (jw_wr _) ?_
  refine jw_callVMl (pc := 1406) (As := [jI (jw_xq G (jw_w (x3 + 1))), jI (jw_xq G (jw_w (x3 + 2)))]) (st := [jL v168]) dL_law_1406 rfl (Nat.le_of_ble_eq_true rfl) qX12_ask jt_1733 jt_1734 jt_1735 rfl rfl (Nat.le_of_ble_eq_true rfl) jv_12 rfl jg_127 jl_127 (by decide) (jw_ho jg_127 (by decide)) (kX12_ask G (jw_xq G (jw_w (x3 + 1))) (jw_xq G (jw_w (x3 + 2))) (jw_rI _) (jw_rI _) M169) (fun v170 M171 hv170 => ?_)
  refine jw_lcmp (pc := 1409) dL_law_1409 hv168 hv170 ?_
  refine jw_if_eq (pc := 1410) 1475 dL_law_1410 (by decide) (jw_cmpr _ _) (fun _ => ?_) (fun _ => ?_)
  · exact jw_few [0, 1, 2, 3] rfl (pL_law_1475 G nm hL r18 hr18 x3 hx3 M171)
  · refine jw_iconst (pc := 1413) dL_law_1413 ?_
    exact jw_ret (pc := 1414) (v := 0) dL_law_1414 (Or.inl rfl) rfl rfl
def fL_law_1415 (G : jw_G) (r18 : Int → jw_M → Option (Int × jw_M)) (x3 : Int) (M : jw_M) : Option (Int × jw_M) :=
  if 0 ≤ jw_w (x3 + 1) ∧ jw_w (x3 + 1) < jw_Ln G then Option.bind (fX11_trace (jw_xq G (jw_w (x3 + 1))) M) (fun v173 => if 0 ≤ jw_w (x3 + 1) ∧ jw_w (x3 + 1) < jw_Ln G then jw_b2 (fX12_trace (jw_xq G (jw_w (x3 + 1))) M) (fun v174 M175 => if v173 = v174 then (fL_law_1475 G r18 x3 M175) else (some (0, M175))) else none) else none
set_option maxRecDepth 100000 in
set_option maxHeartbeats 4000000 in
theorem pL_law_1415 (G : jw_G) (nm : String) (hL : jw_gL G ≤ 384) (r18 : Int → jw_M → Option (Int × jw_M)) (hr18 : ∀ (x3 : Int) (hx3 : jw_r x3) (M : jw_M), jw_Rn G (YL_law nm) 32 0 0 true (fun q => q) 18 [(0, jQ G), (1, jR G 0), (2, jR G 127), (3, jI x3)] [] M (r18 x3 M)) : ∀ (x3 : Int) (hx3 : jw_r x3) (M : jw_M), jw_Rn G (YL_law nm) 32 0 0 true (fun q => q) 1415 [(0, jQ G), (1, jR G 0), (2, jR G 127), (3, jI x3)] [] M (fL_law_1415 G r18 x3 M) := by
  intro x3 hx3 M
  unfold fL_law_1415
  refine jw_aloadR (pc := 1415) 1 dL_law_1415 rfl ?_
  refine jw_aloadQ (pc := 1416) 0 dL_law_1416 rfl ?_
  refine jw_iload_n (pc := 1417) 3 dL_law_1417 rfl ?_
  refine jw_iconst (pc := 1418) dL_law_1418 ?_
  refine jw_iadd (pc := 1419) dL_law_1419 ?_
  refine jw_qld (pc := 1420) dL_law_1420 (jw_wr _) ?_
  refine jw_callVi (pc := 1421) (As := [jI (jw_xq G (jw_w (x3 + 1)))]) (st := []) dL_law_1421 rfl (Nat.le_of_ble_eq_true rfl) qX11_trace jt_1195 jt_1196 jt_1197 rfl rfl (Nat.le_of_ble_eq_true rfl) jv_11 rfl jg_0 jl_0 (by decide) (jw_ho jg_0 (by decide)) (kX11_trace G (jw_xq G (jw_w (x3 + 1))) (jw_rI _) M) (fun v173 hv173 => ?_)
  refine jw_aloadR (pc := 1424) 2 dL_law_1424 rfl ?_
  refine jw_aloadQ (pc := 1425) 0 dL_law_1425 rfl ?_
  refine jw_iload_n (pc := 1426) 3 dL_law_1426 rfl ?_
  refine jw_iconst (pc := 1427) dL_law_1427 ?_
  refine jw_iadd (pc := 1428) dL_law_1428 ?_
  refine jw_qld (pc := 1429) dL_law_1429 (jw_wr _) ?_
  refine jw_callVMi (pc := 1430) (As := [jI (jw_xq G (jw_w (x3 + 1)))]) (st := [jI v173]) dL_law_1430 rfl (Nat.le_of_ble_eq_true rfl) qX12_trace jt_1753 jt_1754 jt_1755 rfl rfl (Nat.le_of_ble_eq_true rfl) jv_12 rfl jg_127 jl_127 (by decide) (jw_ho jg_127 (by decide)) (kX12_trace G (jw_xq G (jw_w (x3 + 1))) (jw_rI _) M) (fun v174 M175 hv174 => ?_)
  refine jw_ic_eq (pc := 1433) 1475 dL_law_1433 (by decide) hv173 hv174 (fun _ => ?_) (fun _ => ?_)
  · exact jw_few [0, 1, 2, 3] rfl (pL_law_1475 G nm hL r18 hr18 x3 hx3 M175)
  · refine jw_iconst (pc := 1436) dL_law_1436 ?_
    exact jw_ret (pc := 1437) (v := 0) dL_law_1437 (Or.inl rfl) rfl rfl
def fL_law_1438 (G : jw_G) (r18 : Int → jw_M → Option (Int × jw_M)) (x3 : Int) (M : jw_M) : Option (Int × jw_M) :=
  if 0 ≤ jw_w (x3 + 1) ∧ jw_w (x3 + 1) < jw_Ln G then Option.bind (fX11_count (jw_xq G (jw_w (x3 + 1))) M) (fun v177 => if 0 ≤ jw_w (x3 + 1) ∧ jw_w (x3 + 1) < jw_Ln G then jw_b2 (fX12_count (jw_xq G (jw_w (x3 + 1))) M) (fun v178 M179 => if jw_cmp v177 v178 = 0 then (fL_law_1475 G r18 x3 M179) else (some (0, M179))) else none) else none
set_option maxRecDepth 100000 in
set_option maxHeartbeats 4000000 in
theorem pL_law_1438 (G : jw_G) (nm : String) (hL : jw_gL G ≤ 384) (r18 : Int → jw_M → Option (Int × jw_M)) (hr18 : ∀ (x3 : Int) (hx3 : jw_r x3) (M : jw_M), jw_Rn G (YL_law nm) 32 0 0 true (fun q => q) 18 [(0, jQ G), (1, jR G 0), (2, jR G 127), (3, jI x3)] [] M (r18 x3 M)) : ∀ (x3 : Int) (hx3 : jw_r x3) (M : jw_M), jw_Rn G (YL_law nm) 32 0 0 true (fun q => q) 1438 [(0, jQ G), (1, jR G 0), (2, jR G 127), (3, jI x3)] [] M (fL_law_1438 G r18 x3 M) := by
  intro x3 hx3 M
  unfold fL_law_1438
  refine jw_aloadR (pc := 1438) 1 dL_law_1438 rfl ?_
  refine jw_aloadQ (pc := 1439) 0 dL_law_1439 rfl ?_
  refine jw_iload_n (pc := 1440) 3 dL_law_1440 rfl ?_
  refine jw_iconst (pc := 1441) dL_law_1441 ?_
  refine jw_iadd (pc := 1442) dL_law_1442 ?_
  refine jw_qld (pc := 1443) dL_law_1443 (jw_wr _) ?_
  refine jw_callVl (pc := 1444) (As := [jI (jw_xq G (jw_w (x3 + 1)))]) (st := []) dL_law_1444 rfl (Nat.le_of_ble_eq_true rfl) qX11_count jt_1204 jt_1205 jt_1206 rfl rfl (Nat.le_of_ble_eq_true rfl) jv_11 rfl jg_0 jl_0 (by decide) (jw_ho jg_0 (by decide)) (kX11_count G (jw_xq G (jw_w (x3 + 1))) (jw_rI _) M) (fun v177 hv177 => ?_)
  refine jw_aloadR (pc := 1447) 2 dL_law_1447 rfl ?_
  refine jw_aloadQ (pc := 1448) 0 dL_law_1448 rfl ?_
  refine jw_iload_n (pc := 1449) 3 dL_law_1449 rfl ?_
  refine jw_iconst (pc := 1450) dL_law_1450 ?_
  refine jw_iadd (pc := 1451) dL_law_1451 ?_
  refine jw_qld (pc := 1452) dL_law_1452 (jw_wr _) ?_
  refine jw_callVMl (pc := 1453) (As := [jI (jw_xq G (jw_w (x3 + 1)))]) (st := [jL v177]) dL_law_1453 rfl (Nat.le_of_ble_eq_true rfl) qX12_count jt_1757 jt_1758 jt_1759 rfl rfl (Nat.le_of_ble_eq_true rfl) jv_12 rfl jg_127 jl_127 (by decide) (jw_ho jg_127 (by decide)) (kX12_count G (jw_xq G (jw_w (x3 + 1))) (jw_rI _) M) (fun v178 M179 hv178 => ?_)
  refine jw_lcmp (pc := 1456) dL_law_1456 hv177 hv178 ?_
  refine jw_if_eq (pc := 1457) 1475 dL_law_1457 (by decide) (jw_cmpr _ _) (fun _ => ?_) (fun _ => ?_)
  · exact jw_few [0, 1, 2, 3] rfl (pL_law_1475 G nm hL r18 hr18 x3 hx3 M179)
  · refine jw_iconst (pc := 1460) dL_law_1460 ?_
    exact jw_ret (pc := 1461) (v := 0) dL_law_1461 (Or.inl rfl) rfl rfl
def fL_law_1462 (G : jw_G) (r18 : Int → jw_M → Option (Int × jw_M)) (x3 : Int) (M : jw_M) : Option (Int × jw_M) :=
  Option.bind (fX11_status  M) (fun v181 => jw_b2 (fX12_status  M) (fun v182 M183 => if v181 = v182 then (fL_law_1475 G r18 x3 M183) else (some (0, M183))))
set_option maxRecDepth 100000 in
set_option maxHeartbeats 4000000 in
theorem pL_law_1462 (G : jw_G) (nm : String) (hL : jw_gL G ≤ 384) (r18 : Int → jw_M → Option (Int × jw_M)) (hr18 : ∀ (x3 : Int) (hx3 : jw_r x3) (M : jw_M), jw_Rn G (YL_law nm) 32 0 0 true (fun q => q) 18 [(0, jQ G), (1, jR G 0), (2, jR G 127), (3, jI x3)] [] M (r18 x3 M)) : ∀ (x3 : Int) (hx3 : jw_r x3) (M : jw_M), jw_Rn G (YL_law nm) 32 0 0 true (fun q => q) 1462 [(0, jQ G), (1, jR G 0), (2, jR G 127), (3, jI x3)] [] M (fL_law_1462 G r18 x3 M) := by
  intro x3 hx3 M
  unfold fL_law_1462
  refine jw_aloadR (pc := 1462) 1 dL_law_1462 rfl ?_
  refine jw_callVi (pc := 1463) (As := []) (st := []) dL_law_1463 rfl (Nat.le_of_ble_eq_true rfl) qX11_status jt_1221 jt_1222 jt_1223 rfl rfl (Nat.le_of_ble_eq_true rfl) jv_11 rfl jg_0 jl_0 (by decide) (jw_ho jg_0 (by decide)) (kX11_status G  M) (fun v181 hv181 => ?_)
  refine jw_aloadR (pc := 1466) 2 dL_law_1466 rfl ?_
  refine jw_callVMi (pc := 1467) (As := []) (st := [jI v181]) dL_law_1467 rfl (Nat.le_of_ble_eq_true rfl) qX12_status jt_1761 jt_1762 jt_1763 rfl rfl (Nat.le_of_ble_eq_true rfl) jv_12 rfl jg_127 jl_127 (by decide) (jw_ho jg_127 (by decide)) (kX12_status G  M) (fun v182 M183 hv182 => ?_)
  refine jw_ic_eq (pc := 1470) 1475 dL_law_1470 (by decide) hv181 hv182 (fun _ => ?_) (fun _ => ?_)
  · exact jw_few [0, 1, 2, 3] rfl (pL_law_1475 G nm hL r18 hr18 x3 hx3 M183)
  · refine jw_iconst (pc := 1473) dL_law_1473 ?_
    exact jw_ret (pc := 1474) (v := 0) dL_law_1474 (Or.inl rfl) rfl rfl
def fL_law_18 (G : jw_G) : Nat → Int → jw_M → Option (Int × jw_M)
  | 0, _, _ => none
  | k + 1, x3, M => if jw_w ((jw_Ln G) - 6) < x3 then (some (1, M)) else (if 0 ≤ x3 ∧ x3 < jw_Ln G then if jw_iand (jw_xq G x3) 63 = 0 then (fL_law_208 G (fL_law_18 G k) x3 M) else (if jw_iand (jw_xq G x3) 63 = 1 then (fL_law_252 G (fL_law_18 G k) x3 M) else (if jw_iand (jw_xq G x3) 63 = 2 then (fL_law_296 G (fL_law_18 G k) x3 M) else (if jw_iand (jw_xq G x3) 63 = 3 then (fL_law_360 G (fL_law_18 G k) x3 M) else (if jw_iand (jw_xq G x3) 63 = 4 then (fL_law_384 G (fL_law_18 G k) x3 M) else (if jw_iand (jw_xq G x3) 63 = 5 then (fL_law_448 G (fL_law_18 G k) x3 M) else (if jw_iand (jw_xq G x3) 63 = 6 then (fL_law_462 G (fL_law_18 G k) x3 M) else (if jw_iand (jw_xq G x3) 63 = 7 then (fL_law_475 G (fL_law_18 G k) x3 M) else (if jw_iand (jw_xq G x3) 63 = 8 then (fL_law_519 G (fL_law_18 G k) x3 M) else (if jw_iand (jw_xq G x3) 63 = 9 then (fL_law_553 G (fL_law_18 G k) x3 M) else (if jw_iand (jw_xq G x3) 63 = 10 then (fL_law_587 G (fL_law_18 G k) x3 M) else (if jw_iand (jw_xq G x3) 63 = 11 then (fL_law_621 G (fL_law_18 G k) x3 M) else (if jw_iand (jw_xq G x3) 63 = 12 then (fL_law_665 G (fL_law_18 G k) x3 M) else (if jw_iand (jw_xq G x3) 63 = 13 then (fL_law_719 G (fL_law_18 G k) x3 M) else (if jw_iand (jw_xq G x3) 63 = 14 then (fL_law_753 G (fL_law_18 G k) x3 M) else (if jw_iand (jw_xq G x3) 63 = 15 then (fL_law_777 G (fL_law_18 G k) x3 M) else (if jw_iand (jw_xq G x3) 63 = 16 then (fL_law_791 G (fL_law_18 G k) x3 M) else (if jw_iand (jw_xq G x3) 63 = 17 then (fL_law_825 G (fL_law_18 G k) x3 M) else (if jw_iand (jw_xq G x3) 63 = 18 then (fL_law_859 G (fL_law_18 G k) x3 M) else (if jw_iand (jw_xq G x3) 63 = 19 then (fL_law_883 G (fL_law_18 G k) x3 M) else (if jw_iand (jw_xq G x3) 63 = 20 then (fL_law_907 G (fL_law_18 G k) x3 M) else (if jw_iand (jw_xq G x3) 63 = 21 then (fL_law_921 G (fL_law_18 G k) x3 M) else (if jw_iand (jw_xq G x3) 63 = 22 then (fL_law_935 G (fL_law_18 G k) x3 M) else (if jw_iand (jw_xq G x3) 63 = 23 then (fL_law_959 G (fL_law_18 G k) x3 M) else (if jw_iand (jw_xq G x3) 63 = 24 then (fL_law_993 G (fL_law_18 G k) x3 M) else (if jw_iand (jw_xq G x3) 63 = 25 then (fL_law_1047 G (fL_law_18 G k) x3 M) else (if jw_iand (jw_xq G x3) 63 = 26 then (fL_law_1071 G (fL_law_18 G k) x3 M) else (if jw_iand (jw_xq G x3) 63 = 27 then (fL_law_1105 G (fL_law_18 G k) x3 M) else (if jw_iand (jw_xq G x3) 63 = 28 then (fL_law_1139 G (fL_law_18 G k) x3 M) else (if jw_iand (jw_xq G x3) 63 = 29 then (fL_law_1183 G (fL_law_18 G k) x3 M) else (if jw_iand (jw_xq G x3) 63 = 30 then (fL_law_1227 G (fL_law_18 G k) x3 M) else (if jw_iand (jw_xq G x3) 63 = 31 then (fL_law_1261 G (fL_law_18 G k) x3 M) else (if jw_iand (jw_xq G x3) 63 = 32 then (fL_law_1275 G (fL_law_18 G k) x3 M) else (if jw_iand (jw_xq G x3) 63 = 33 then (fL_law_1299 G (fL_law_18 G k) x3 M) else (if jw_iand (jw_xq G x3) 63 = 34 then (fL_law_1323 G (fL_law_18 G k) x3 M) else (if jw_iand (jw_xq G x3) 63 = 35 then (fL_law_1347 G (fL_law_18 G k) x3 M) else (if jw_iand (jw_xq G x3) 63 = 36 then (fL_law_1381 G (fL_law_18 G k) x3 M) else (if jw_iand (jw_xq G x3) 63 = 37 then (fL_law_1415 G (fL_law_18 G k) x3 M) else (if jw_iand (jw_xq G x3) 63 = 38 then (fL_law_1438 G (fL_law_18 G k) x3 M) else (if jw_iand (jw_xq G x3) 63 = 39 then (fL_law_1462 G (fL_law_18 G k) x3 M) else (fL_law_1475 G (fL_law_18 G k) x3 M)))))))))))))))))))))))))))))))))))))))) else none)
set_option maxRecDepth 100000 in
set_option maxHeartbeats 4000000 in
theorem pL_law_18 (G : jw_G) (nm : String) (hL : jw_gL G ≤ 384) : ∀ (k : Nat) (x3 : Int) (hx3 : jw_r x3) (M : jw_M), jw_Rn G (YL_law nm) 32 0 0 true (fun q => q) 18 [(0, jQ G), (1, jR G 0), (2, jR G 127), (3, jI x3)] [] M (fL_law_18 G k x3 M) := by
  intro k
  induction k with
  | zero =>
    intro x3 hx3 M
    exact jw_none
  | succ k ih =>
    intro x3 hx3 M
    rw [fL_law_18]
    refine jw_iload_n (pc := 18) 3 dL_law_18 rfl ?_
    refine jw_aloadQ (pc := 19) 0 dL_law_19 rfl ?_
    refine jw_qlen (pc := 20) dL_law_20 ?_
    refine jw_bipush (pc := 21) dL_law_21 rfl ?_
    refine jw_isub (pc := 23) dL_law_23 ?_
    refine jw_ic_gt (pc := 24) 1481 dL_law_24 (by decide) hx3 (jw_wr _) (fun _ => ?_) (fun _ => ?_)
    · refine jw_iconst (pc := 1481) dL_law_1481 ?_
      exact jw_ret (pc := 1482) (v := 1) dL_law_1482 (Or.inr rfl) rfl rfl
    · refine jw_aloadQ (pc := 27) 0 dL_law_27 rfl ?_
      refine jw_iload_n (pc := 28) 3 dL_law_28 rfl ?_
      refine jw_qld (pc := 29) dL_law_29 hx3 ?_
      refine jw_bipush (pc := 30) dL_law_30 rfl ?_
      refine jw_iandr (pc := 32) dL_law_32 ?_
      refine jw_ite (fun c6 => ?_) (fun c6 => ?_)
      · refine jw_tsin (pc := 33) 208 0 dL_law_33 (jw_rI _) c6 rfl rfl (by decide) ?_
        exact jw_few [0, 1, 2, 3] rfl (pL_law_208 G nm hL (fL_law_18 G k) ih x3 hx3 M)
      · refine jw_ite (fun c11 => ?_) (fun c11 => ?_)
        · refine jw_tsin (pc := 33) 252 1 dL_law_33 (jw_rI _) c11 rfl rfl (by decide) ?_
          exact jw_few [0, 1, 2, 3] rfl (pL_law_252 G nm hL (fL_law_18 G k) ih x3 hx3 M)
        · refine jw_ite (fun c16 => ?_) (fun c16 => ?_)
          · refine jw_tsin (pc := 33) 296 2 dL_law_33 (jw_rI _) c16 rfl rfl (by decide) ?_
            exact jw_few [0, 1, 2, 3] rfl (pL_law_296 G nm hL (fL_law_18 G k) ih x3 hx3 M)
          · refine jw_ite (fun c21 => ?_) (fun c21 => ?_)
            · refine jw_tsin (pc := 33) 360 3 dL_law_33 (jw_rI _) c21 rfl rfl (by decide) ?_
              exact jw_few [0, 1, 2, 3] rfl (pL_law_360 G nm hL (fL_law_18 G k) ih x3 hx3 M)
            · refine jw_ite (fun c26 => ?_) (fun c26 => ?_)
              · refine jw_tsin (pc := 33) 384 4 dL_law_33 (jw_rI _) c26 rfl rfl (by decide) ?_
                exact jw_few [0, 1, 2, 3] rfl (pL_law_384 G nm hL (fL_law_18 G k) ih x3 hx3 M)
              · refine jw_ite (fun c31 => ?_) (fun c31 => ?_)
                · refine jw_tsin (pc := 33) 448 5 dL_law_33 (jw_rI _) c31 rfl rfl (by decide) ?_
                  exact jw_few [0, 1, 2, 3] rfl (pL_law_448 G nm hL (fL_law_18 G k) ih x3 hx3 M)
                · refine jw_ite (fun c35 => ?_) (fun c35 => ?_)
                  · refine jw_tsin (pc := 33) 462 6 dL_law_33 (jw_rI _) c35 rfl rfl (by decide) ?_
                    exact jw_few [0, 1, 2, 3] rfl (pL_law_462 G nm hL (fL_law_18 G k) ih x3 hx3 M)
                  · refine jw_ite (fun c39 => ?_) (fun c39 => ?_)
                    · refine jw_tsin (pc := 33) 475 7 dL_law_33 (jw_rI _) c39 rfl rfl (by decide) ?_
                      exact jw_few [0, 1, 2, 3] rfl (pL_law_475 G nm hL (fL_law_18 G k) ih x3 hx3 M)
                    · refine jw_ite (fun c44 => ?_) (fun c44 => ?_)
                      · refine jw_tsin (pc := 33) 519 8 dL_law_33 (jw_rI _) c44 rfl rfl (by decide) ?_
                        exact jw_few [0, 1, 2, 3] rfl (pL_law_519 G nm hL (fL_law_18 G k) ih x3 hx3 M)
                      · refine jw_ite (fun c48 => ?_) (fun c48 => ?_)
                        · refine jw_tsin (pc := 33) 553 9 dL_law_33 (jw_rI _) c48 rfl rfl (by decide) ?_
                          exact jw_few [0, 1, 2, 3] rfl (pL_law_553 G nm hL (fL_law_18 G k) ih x3 hx3 M)
                        · refine jw_ite (fun c53 => ?_) (fun c53 => ?_)
                          · refine jw_tsin (pc := 33) 587 10 dL_law_33 (jw_rI _) c53 rfl rfl (by decide) ?_
                            exact jw_few [0, 1, 2, 3] rfl (pL_law_587 G nm hL (fL_law_18 G k) ih x3 hx3 M)
                          · refine jw_ite (fun c58 => ?_) (fun c58 => ?_)
                            · refine jw_tsin (pc := 33) 621 11 dL_law_33 (jw_rI _) c58 rfl rfl (by decide) ?_
                              exact jw_few [0, 1, 2, 3] rfl (pL_law_621 G nm hL (fL_law_18 G k) ih x3 hx3 M)
                            · refine jw_ite (fun c63 => ?_) (fun c63 => ?_)
                              · refine jw_tsin (pc := 33) 665 12 dL_law_33 (jw_rI _) c63 rfl rfl (by decide) ?_
                                exact jw_few [0, 1, 2, 3] rfl (pL_law_665 G nm hL (fL_law_18 G k) ih x3 hx3 M)
                              · refine jw_ite (fun c67 => ?_) (fun c67 => ?_)
                                · refine jw_tsin (pc := 33) 719 13 dL_law_33 (jw_rI _) c67 rfl rfl (by decide) ?_
                                  exact jw_few [0, 1, 2, 3] rfl (pL_law_719 G nm hL (fL_law_18 G k) ih x3 hx3 M)
                                · refine jw_ite (fun c71 => ?_) (fun c71 => ?_)
                                  · refine jw_tsin (pc := 33) 753 14 dL_law_33 (jw_rI _) c71 rfl rfl (by decide) ?_
                                    exact jw_few [0, 1, 2, 3] rfl (pL_law_753 G nm hL (fL_law_18 G k) ih x3 hx3 M)
                                  · refine jw_ite (fun c76 => ?_) (fun c76 => ?_)
                                    · refine jw_tsin (pc := 33) 777 15 dL_law_33 (jw_rI _) c76 rfl rfl (by decide) ?_
                                      exact jw_few [0, 1, 2, 3] rfl (pL_law_777 G nm hL (fL_law_18 G k) ih x3 hx3 M)
                                    · refine jw_ite (fun c80 => ?_) (fun c80 => ?_)
                                      · refine jw_tsin (pc := 33) 791 16 dL_law_33 (jw_rI _) c80 rfl rfl (by decide) ?_
                                        exact jw_few [0, 1, 2, 3] rfl (pL_law_791 G nm hL (fL_law_18 G k) ih x3 hx3 M)
                                      · refine jw_ite (fun c84 => ?_) (fun c84 => ?_)
                                        · refine jw_tsin (pc := 33) 825 17 dL_law_33 (jw_rI _) c84 rfl rfl (by decide) ?_
                                          exact jw_few [0, 1, 2, 3] rfl (pL_law_825 G nm hL (fL_law_18 G k) ih x3 hx3 M)
                                        · refine jw_ite (fun c88 => ?_) (fun c88 => ?_)
                                          · refine jw_tsin (pc := 33) 859 18 dL_law_33 (jw_rI _) c88 rfl rfl (by decide) ?_
                                            exact jw_few [0, 1, 2, 3] rfl (pL_law_859 G nm hL (fL_law_18 G k) ih x3 hx3 M)
                                          · refine jw_ite (fun c92 => ?_) (fun c92 => ?_)
                                            · refine jw_tsin (pc := 33) 883 19 dL_law_33 (jw_rI _) c92 rfl rfl (by decide) ?_
                                              exact jw_few [0, 1, 2, 3] rfl (pL_law_883 G nm hL (fL_law_18 G k) ih x3 hx3 M)
                                            · refine jw_ite (fun c96 => ?_) (fun c96 => ?_)
                                              · refine jw_tsin (pc := 33) 907 20 dL_law_33 (jw_rI _) c96 rfl rfl (by decide) ?_
                                                exact jw_few [0, 1, 2, 3] rfl (pL_law_907 G nm hL (fL_law_18 G k) ih x3 hx3 M)
                                              · refine jw_ite (fun c101 => ?_) (fun c101 => ?_)
                                                · refine jw_tsin (pc := 33) 921 21 dL_law_33 (jw_rI _) c101 rfl rfl (by decide) ?_
                                                  exact jw_few [0, 1, 2, 3] rfl (pL_law_921 G nm hL (fL_law_18 G k) ih x3 hx3 M)
                                                · refine jw_ite (fun c106 => ?_) (fun c106 => ?_)
                                                  · refine jw_tsin (pc := 33) 935 22 dL_law_33 (jw_rI _) c106 rfl rfl (by decide) ?_
                                                    exact jw_few [0, 1, 2, 3] rfl (pL_law_935 G nm hL (fL_law_18 G k) ih x3 hx3 M)
                                                  · refine jw_ite (fun c110 => ?_) (fun c110 => ?_)
                                                    · refine jw_tsin (pc := 33) 959 23 dL_law_33 (jw_rI _) c110 rfl rfl (by decide) ?_
                                                      exact jw_few [0, 1, 2, 3] rfl (pL_law_959 G nm hL (fL_law_18 G k) ih x3 hx3 M)
                                                    · refine jw_ite (fun c115 => ?_) (fun c115 => ?_)
                                                      · refine jw_tsin (pc := 33) 993 24 dL_law_33 (jw_rI _) c115 rfl rfl (by decide) ?_
                                                        exact jw_few [0, 1, 2, 3] rfl (pL_law_993 G nm hL (fL_law_18 G k) ih x3 hx3 M)
                                                      · refine jw_ite (fun c120 => ?_) (fun c120 => ?_)
                                                        · refine jw_tsin (pc := 33) 1047 25 dL_law_33 (jw_rI _) c120 rfl rfl (by decide) ?_
                                                          exact jw_few [0, 1, 2, 3] rfl (pL_law_1047 G nm hL (fL_law_18 G k) ih x3 hx3 M)
                                                        · refine jw_ite (fun c124 => ?_) (fun c124 => ?_)
                                                          · refine jw_tsin (pc := 33) 1071 26 dL_law_33 (jw_rI _) c124 rfl rfl (by decide) ?_
                                                            exact jw_few [0, 1, 2, 3] rfl (pL_law_1071 G nm hL (fL_law_18 G k) ih x3 hx3 M)
                                                          · refine jw_ite (fun c129 => ?_) (fun c129 => ?_)
                                                            · refine jw_tsin (pc := 33) 1105 27 dL_law_33 (jw_rI _) c129 rfl rfl (by decide) ?_
                                                              exact jw_few [0, 1, 2, 3] rfl (pL_law_1105 G nm hL (fL_law_18 G k) ih x3 hx3 M)
                                                            · refine jw_ite (fun c134 => ?_) (fun c134 => ?_)
                                                              · refine jw_tsin (pc := 33) 1139 28 dL_law_33 (jw_rI _) c134 rfl rfl (by decide) ?_
                                                                exact jw_few [0, 1, 2, 3] rfl (pL_law_1139 G nm hL (fL_law_18 G k) ih x3 hx3 M)
                                                              · refine jw_ite (fun c139 => ?_) (fun c139 => ?_)
                                                                · refine jw_tsin (pc := 33) 1183 29 dL_law_33 (jw_rI _) c139 rfl rfl (by decide) ?_
                                                                  exact jw_few [0, 1, 2, 3] rfl (pL_law_1183 G nm hL (fL_law_18 G k) ih x3 hx3 M)
                                                                · refine jw_ite (fun c143 => ?_) (fun c143 => ?_)
                                                                  · refine jw_tsin (pc := 33) 1227 30 dL_law_33 (jw_rI _) c143 rfl rfl (by decide) ?_
                                                                    exact jw_few [0, 1, 2, 3] rfl (pL_law_1227 G nm hL (fL_law_18 G k) ih x3 hx3 M)
                                                                  · refine jw_ite (fun c148 => ?_) (fun c148 => ?_)
                                                                    · refine jw_tsin (pc := 33) 1261 31 dL_law_33 (jw_rI _) c148 rfl rfl (by decide) ?_
                                                                      exact jw_few [0, 1, 2, 3] rfl (pL_law_1261 G nm hL (fL_law_18 G k) ih x3 hx3 M)
                                                                    · refine jw_ite (fun c153 => ?_) (fun c153 => ?_)
                                                                      · refine jw_tsin (pc := 33) 1275 32 dL_law_33 (jw_rI _) c153 rfl rfl (by decide) ?_
                                                                        exact jw_few [0, 1, 2, 3] rfl (pL_law_1275 G nm hL (fL_law_18 G k) ih x3 hx3 M)
                                                                      · refine jw_ite (fun c158 => ?_) (fun c158 => ?_)
                                                                        · refine jw_tsin (pc := 33) 1299 33 dL_law_33 (jw_rI _) c158 rfl rfl (by decide) ?_
                                                                          exact jw_few [0, 1, 2, 3] rfl (pL_law_1299 G nm hL (fL_law_18 G k) ih x3 hx3 M)
                                                                        · refine jw_ite (fun c162 => ?_) (fun c162 => ?_)
                                                                          · refine jw_tsin (pc := 33) 1323 34 dL_law_33 (jw_rI _) c162 rfl rfl (by decide) ?_
                                                                            exact jw_few [0, 1, 2, 3] rfl (pL_law_1323 G nm hL (fL_law_18 G k) ih x3 hx3 M)
                                                                          · refine jw_ite (fun c167 => ?_) (fun c167 => ?_)
                                                                            · refine jw_tsin (pc := 33) 1347 35 dL_law_33 (jw_rI _) c167 rfl rfl (by decide) ?_
                                                                              exact jw_few [0, 1, 2, 3] rfl (pL_law_1347 G nm hL (fL_law_18 G k) ih x3 hx3 M)
                                                                            · refine jw_ite (fun c172 => ?_) (fun c172 => ?_)
                                                                              · refine jw_tsin (pc := 33) 1381 36 dL_law_33 (jw_rI _) c172 rfl rfl (by decide) ?_
                                                                                exact jw_few [0, 1, 2, 3] rfl (pL_law_1381 G nm hL (fL_law_18 G k) ih x3 hx3 M)
                                                                              · refine jw_ite (fun c176 => ?_) (fun c176 => ?_)
                                                                                · refine jw_tsin (pc := 33) 1415 37 dL_law_33 (jw_rI _) c176 rfl rfl (by decide) ?_
                                                                                  exact jw_few [0, 1, 2, 3] rfl (pL_law_1415 G nm hL (fL_law_18 G k) ih x3 hx3 M)
                                                                                · refine jw_ite (fun c180 => ?_) (fun c180 => ?_)
                                                                                  · refine jw_tsin (pc := 33) 1438 38 dL_law_33 (jw_rI _) c180 rfl rfl (by decide) ?_
                                                                                    exact jw_few [0, 1, 2, 3] rfl (pL_law_1438 G nm hL (fL_law_18 G k) ih x3 hx3 M)
                                                                                  · refine jw_ite (fun c184 => ?_) (fun c184 => ?_)
                                                                                    · refine jw_tsin (pc := 33) 1462 39 dL_law_33 (jw_rI _) c184 rfl rfl (by decide) ?_
                                                                                      exact jw_few [0, 1, 2, 3] rfl (pL_law_1462 G nm hL (fL_law_18 G k) ih x3 hx3 M)
                                                                                    · refine jw_tsout (pc := 33) 1475 dL_law_33 (jw_rI _) (by omega) (by decide) ?_
                                                                                      exact jw_few [0, 1, 2, 3] rfl (pL_law_1475 G nm hL (fL_law_18 G k) ih x3 hx3 M)
