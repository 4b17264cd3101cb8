/-! the law: its words, its rows -/
theorem dL_law_0 : decode cL_law 0 = .ok (.new 7, 3) := by decide +kernel
theorem dL_law_3 : decode cL_law 3 = .ok (.dup, 1) := by decide +kernel
theorem dL_law_4 : decode cL_law 4 = .ok (.invokespecial 9, 3) := by decide +kernel
theorem dL_law_7 : decode cL_law 7 = .ok (.astore_n 1, 1) := by decide +kernel
theorem dL_law_8 : decode cL_law 8 = .ok (.new 10, 3) := by decide +kernel
theorem dL_law_11 : decode cL_law 11 = .ok (.dup, 1) := by decide +kernel
theorem dL_law_12 : decode cL_law 12 = .ok (.invokespecial 12, 3) := by decide +kernel
theorem dL_law_15 : decode cL_law 15 = .ok (.astore_n 2, 1) := by decide +kernel
theorem dL_law_16 : decode cL_law 16 = .ok (.iconst 0, 1) := by decide +kernel
theorem dL_law_17 : decode cL_law 17 = .ok (.istore_n 3, 1) := by decide +kernel
theorem dL_law_18 : decode cL_law 18 = .ok (.iload_n 3, 1) := by decide +kernel
theorem dL_law_19 : decode cL_law 19 = .ok (.aload_n 0, 1) := by decide +kernel
theorem dL_law_20 : decode cL_law 20 = .ok (.arraylength, 1) := by decide +kernel
theorem dL_law_21 : decode cL_law 21 = .ok (.bipush 6, 2) := by decide +kernel
theorem dL_law_23 : decode cL_law 23 = .ok (.isub, 1) := by decide +kernel
theorem dL_law_24 : decode cL_law 24 = .ok (.if_icmp .gt 1527, 3) := by decide +kernel
theorem dL_law_27 : decode cL_law 27 = .ok (.aload_n 0, 1) := by decide +kernel
theorem dL_law_28 : decode cL_law 28 = .ok (.iload_n 3, 1) := by decide +kernel
theorem dL_law_29 : decode cL_law 29 = .ok (.iaload, 1) := by decide +kernel
theorem dL_law_30 : decode cL_law 30 = .ok (.bipush 63, 2) := by decide +kernel
theorem dL_law_32 : decode cL_law 32 = .ok (.iand, 1) := by decide +kernel
theorem dL_law_33 : decode cL_law 33 = .ok (.tableswitch 1512 0 40 #[179, 202, 235, 278, 311, 344, 357, 390, 433, 466, 529, 552, 605, 668, 701, 724, 767, 790, 813, 846, 889, 912, 955, 988, 1011, 1024, 1077, 1120, 1143, 1186, 1209, 1252, 1295, 1358, 1381, 1404, 1417, 1430, 1453, 1466, 1489], 179) := by decide +kernel
theorem dL_law_212 : decode cL_law 212 = .ok (.aload_n 1, 1) := by decide +kernel
theorem dL_law_213 : decode cL_law 213 = .ok (.aload_n 0, 1) := by decide +kernel
theorem dL_law_214 : decode cL_law 214 = .ok (.iload_n 3, 1) := by decide +kernel
theorem dL_law_215 : decode cL_law 215 = .ok (.iconst 1, 1) := by decide +kernel
theorem dL_law_216 : decode cL_law 216 = .ok (.iadd, 1) := by decide +kernel
theorem dL_law_217 : decode cL_law 217 = .ok (.iaload, 1) := by decide +kernel
theorem dL_law_218 : decode cL_law 218 = .ok (.invokevirtual 13, 3) := by decide +kernel
theorem dL_law_221 : decode cL_law 221 = .ok (.aload_n 2, 1) := by decide +kernel
theorem dL_law_222 : decode cL_law 222 = .ok (.aload_n 0, 1) := by decide +kernel
theorem dL_law_223 : decode cL_law 223 = .ok (.iload_n 3, 1) := by decide +kernel
theorem dL_law_224 : decode cL_law 224 = .ok (.iconst 1, 1) := by decide +kernel
theorem dL_law_225 : decode cL_law 225 = .ok (.iadd, 1) := by decide +kernel
theorem dL_law_226 : decode cL_law 226 = .ok (.iaload, 1) := by decide +kernel
theorem dL_law_227 : decode cL_law 227 = .ok (.invokevirtual 17, 3) := by decide +kernel
theorem dL_law_230 : decode cL_law 230 = .ok (.if_icmp .eq 1315, 3) := by decide +kernel
theorem dL_law_233 : decode cL_law 233 = .ok (.iconst 0, 1) := by decide +kernel
theorem dL_law_234 : decode cL_law 234 = .ok (.ireturn, 1) := by decide +kernel
theorem dL_law_235 : decode cL_law 235 = .ok (.aload_n 1, 1) := by decide +kernel
theorem dL_law_236 : decode cL_law 236 = .ok (.aload_n 0, 1) := by decide +kernel
theorem dL_law_237 : decode cL_law 237 = .ok (.iload_n 3, 1) := by decide +kernel
theorem dL_law_238 : decode cL_law 238 = .ok (.iconst 1, 1) := by decide +kernel
theorem dL_law_239 : decode cL_law 239 = .ok (.iadd, 1) := by decide +kernel
theorem dL_law_240 : decode cL_law 240 = .ok (.iaload, 1) := by decide +kernel
theorem dL_law_241 : decode cL_law 241 = .ok (.aload_n 0, 1) := by decide +kernel
theorem dL_law_242 : decode cL_law 242 = .ok (.iload_n 3, 1) := by decide +kernel
theorem dL_law_243 : decode cL_law 243 = .ok (.iconst 2, 1) := by decide +kernel
theorem dL_law_244 : decode cL_law 244 = .ok (.iadd, 1) := by decide +kernel
theorem dL_law_245 : decode cL_law 245 = .ok (.iaload, 1) := by decide +kernel
theorem dL_law_246 : decode cL_law 246 = .ok (.invokevirtual 18, 3) := by decide +kernel
theorem dL_law_249 : decode cL_law 249 = .ok (.aload_n 2, 1) := by decide +kernel
theorem dL_law_250 : decode cL_law 250 = .ok (.aload_n 0, 1) := by decide +kernel
theorem dL_law_251 : decode cL_law 251 = .ok (.iload_n 3, 1) := by decide +kernel
theorem dL_law_252 : decode cL_law 252 = .ok (.iconst 1, 1) := by decide +kernel
theorem dL_law_253 : decode cL_law 253 = .ok (.iadd, 1) := by decide +kernel
theorem dL_law_254 : decode cL_law 254 = .ok (.iaload, 1) := by decide +kernel
theorem dL_law_255 : decode cL_law 255 = .ok (.aload_n 0, 1) := by decide +kernel
theorem dL_law_256 : decode cL_law 256 = .ok (.iload_n 3, 1) := by decide +kernel
theorem dL_law_257 : decode cL_law 257 = .ok (.iconst 2, 1) := by decide +kernel
theorem dL_law_258 : decode cL_law 258 = .ok (.iadd, 1) := by decide +kernel
theorem dL_law_259 : decode cL_law 259 = .ok (.iaload, 1) := by decide +kernel
theorem dL_law_260 : decode cL_law 260 = .ok (.invokevirtual 22, 3) := by decide +kernel
theorem dL_law_263 : decode cL_law 263 = .ok (.if_icmp .eq 1282, 3) := by decide +kernel
theorem dL_law_266 : decode cL_law 266 = .ok (.iconst 0, 1) := by decide +kernel
theorem dL_law_267 : decode cL_law 267 = .ok (.ireturn, 1) := by decide +kernel
theorem dL_law_268 : decode cL_law 268 = .ok (.aload_n 1, 1) := by decide +kernel
theorem dL_law_269 : decode cL_law 269 = .ok (.aload_n 0, 1) := by decide +kernel
theorem dL_law_270 : decode cL_law 270 = .ok (.iload_n 3, 1) := by decide +kernel
theorem dL_law_271 : decode cL_law 271 = .ok (.iconst 1, 1) := by decide +kernel
theorem dL_law_272 : decode cL_law 272 = .ok (.iadd, 1) := by decide +kernel
theorem dL_law_273 : decode cL_law 273 = .ok (.iaload, 1) := by decide +kernel
theorem dL_law_274 : decode cL_law 274 = .ok (.aload_n 0, 1) := by decide +kernel
theorem dL_law_275 : decode cL_law 275 = .ok (.iload_n 3, 1) := by decide +kernel
theorem dL_law_276 : decode cL_law 276 = .ok (.iconst 2, 1) := by decide +kernel
theorem dL_law_277 : decode cL_law 277 = .ok (.iadd, 1) := by decide +kernel
theorem dL_law_278 : decode cL_law 278 = .ok (.iaload, 1) := by decide +kernel
theorem dL_law_279 : decode cL_law 279 = .ok (.aload_n 0, 1) := by decide +kernel
theorem dL_law_280 : decode cL_law 280 = .ok (.iload_n 3, 1) := by decide +kernel
theorem dL_law_281 : decode cL_law 281 = .ok (.iconst 3, 1) := by decide +kernel
theorem dL_law_282 : decode cL_law 282 = .ok (.iadd, 1) := by decide +kernel
theorem dL_law_283 : decode cL_law 283 = .ok (.iaload, 1) := by decide +kernel
theorem dL_law_284 : decode cL_law 284 = .ok (.invokevirtual 23, 3) := by decide +kernel
theorem dL_law_287 : decode cL_law 287 = .ok (.aload_n 2, 1) := by decide +kernel
theorem dL_law_288 : decode cL_law 288 = .ok (.aload_n 0, 1) := by decide +kernel
theorem dL_law_289 : decode cL_law 289 = .ok (.iload_n 3, 1) := by decide +kernel
theorem dL_law_290 : decode cL_law 290 = .ok (.iconst 1, 1) := by decide +kernel
theorem dL_law_291 : decode cL_law 291 = .ok (.iadd, 1) := by decide +kernel
theorem dL_law_292 : decode cL_law 292 = .ok (.iaload, 1) := by decide +kernel
theorem dL_law_293 : decode cL_law 293 = .ok (.aload_n 0, 1) := by decide +kernel
theorem dL_law_294 : decode cL_law 294 = .ok (.iload_n 3, 1) := by decide +kernel
theorem dL_law_295 : decode cL_law 295 = .ok (.iconst 2, 1) := by decide +kernel
theorem dL_law_296 : decode cL_law 296 = .ok (.iadd, 1) := by decide +kernel
theorem dL_law_297 : decode cL_law 297 = .ok (.iaload, 1) := by decide +kernel
theorem dL_law_298 : decode cL_law 298 = .ok (.aload_n 0, 1) := by decide +kernel
theorem dL_law_299 : decode cL_law 299 = .ok (.iload_n 3, 1) := by decide +kernel
theorem dL_law_300 : decode cL_law 300 = .ok (.iconst 3, 1) := by decide +kernel
theorem dL_law_301 : decode cL_law 301 = .ok (.iadd, 1) := by decide +kernel
theorem dL_law_302 : decode cL_law 302 = .ok (.iaload, 1) := by decide +kernel
theorem dL_law_303 : decode cL_law 303 = .ok (.invokevirtual 27, 3) := by decide +kernel
theorem dL_law_306 : decode cL_law 306 = .ok (.if_icmp .eq 1239, 3) := by decide +kernel
theorem dL_law_309 : decode cL_law 309 = .ok (.iconst 0, 1) := by decide +kernel
theorem dL_law_310 : decode cL_law 310 = .ok (.ireturn, 1) := by decide +kernel
theorem dL_law_311 : decode cL_law 311 = .ok (.aload_n 1, 1) := by decide +kernel
theorem dL_law_312 : decode cL_law 312 = .ok (.aload_n 0, 1) := by decide +kernel
theorem dL_law_313 : decode cL_law 313 = .ok (.iload_n 3, 1) := by decide +kernel
theorem dL_law_314 : decode cL_law 314 = .ok (.iconst 1, 1) := by decide +kernel
theorem dL_law_315 : decode cL_law 315 = .ok (.iadd, 1) := by decide +kernel
theorem dL_law_316 : decode cL_law 316 = .ok (.iaload, 1) := by decide +kernel
theorem dL_law_317 : decode cL_law 317 = .ok (.aload_n 0, 1) := by decide +kernel
theorem dL_law_318 : decode cL_law 318 = .ok (.iload_n 3, 1) := by decide +kernel
theorem dL_law_319 : decode cL_law 319 = .ok (.iconst 2, 1) := by decide +kernel
theorem dL_law_320 : decode cL_law 320 = .ok (.iadd, 1) := by decide +kernel
theorem dL_law_321 : decode cL_law 321 = .ok (.iaload, 1) := by decide +kernel
theorem dL_law_322 : decode cL_law 322 = .ok (.invokevirtual 28, 3) := by decide +kernel
theorem dL_law_325 : decode cL_law 325 = .ok (.aload_n 2, 1) := by decide +kernel
theorem dL_law_326 : decode cL_law 326 = .ok (.aload_n 0, 1) := by decide +kernel
theorem dL_law_327 : decode cL_law 327 = .ok (.iload_n 3, 1) := by decide +kernel
theorem dL_law_328 : decode cL_law 328 = .ok (.iconst 1, 1) := by decide +kernel
theorem dL_law_329 : decode cL_law 329 = .ok (.iadd, 1) := by decide +kernel
theorem dL_law_330 : decode cL_law 330 = .ok (.iaload, 1) := by decide +kernel
theorem dL_law_331 : decode cL_law 331 = .ok (.aload_n 0, 1) := by decide +kernel
theorem dL_law_332 : decode cL_law 332 = .ok (.iload_n 3, 1) := by decide +kernel
theorem dL_law_333 : decode cL_law 333 = .ok (.iconst 2, 1) := by decide +kernel
theorem dL_law_334 : decode cL_law 334 = .ok (.iadd, 1) := by decide +kernel
theorem dL_law_335 : decode cL_law 335 = .ok (.iaload, 1) := by decide +kernel
theorem dL_law_336 : decode cL_law 336 = .ok (.invokevirtual 31, 3) := by decide +kernel
theorem dL_law_339 : decode cL_law 339 = .ok (.if_icmp .eq 1206, 3) := by decide +kernel
theorem dL_law_342 : decode cL_law 342 = .ok (.iconst 0, 1) := by decide +kernel
theorem dL_law_343 : decode cL_law 343 = .ok (.ireturn, 1) := by decide +kernel
theorem dL_law_344 : decode cL_law 344 = .ok (.aload_n 1, 1) := by decide +kernel
theorem dL_law_345 : decode cL_law 345 = .ok (.aload_n 0, 1) := by decide +kernel
theorem dL_law_346 : decode cL_law 346 = .ok (.iload_n 3, 1) := by decide +kernel
theorem dL_law_347 : decode cL_law 347 = .ok (.iconst 1, 1) := by decide +kernel
theorem dL_law_348 : decode cL_law 348 = .ok (.iadd, 1) := by decide +kernel
theorem dL_law_349 : decode cL_law 349 = .ok (.iaload, 1) := by decide +kernel
theorem dL_law_350 : decode cL_law 350 = .ok (.aload_n 0, 1) := by decide +kernel
theorem dL_law_351 : decode cL_law 351 = .ok (.iload_n 3, 1) := by decide +kernel
theorem dL_law_352 : decode cL_law 352 = .ok (.iconst 2, 1) := by decide +kernel
theorem dL_law_353 : decode cL_law 353 = .ok (.iadd, 1) := by decide +kernel
theorem dL_law_354 : decode cL_law 354 = .ok (.iaload, 1) := by decide +kernel
theorem dL_law_355 : decode cL_law 355 = .ok (.invokevirtual 32, 3) := by decide +kernel
theorem dL_law_358 : decode cL_law 358 = .ok (.aload_n 2, 1) := by decide +kernel
theorem dL_law_359 : decode cL_law 359 = .ok (.aload_n 0, 1) := by decide +kernel
theorem dL_law_360 : decode cL_law 360 = .ok (.iload_n 3, 1) := by decide +kernel
theorem dL_law_361 : decode cL_law 361 = .ok (.iconst 1, 1) := by decide +kernel
theorem dL_law_362 : decode cL_law 362 = .ok (.iadd, 1) := by decide +kernel
theorem dL_law_363 : decode cL_law 363 = .ok (.iaload, 1) := by decide +kernel
theorem dL_law_364 : decode cL_law 364 = .ok (.aload_n 0, 1) := by decide +kernel
theorem dL_law_365 : decode cL_law 365 = .ok (.iload_n 3, 1) := by decide +kernel
theorem dL_law_366 : decode cL_law 366 = .ok (.iconst 2, 1) := by decide +kernel
theorem dL_law_367 : decode cL_law 367 = .ok (.iadd, 1) := by decide +kernel
theorem dL_law_368 : decode cL_law 368 = .ok (.iaload, 1) := by decide +kernel
theorem dL_law_369 : decode cL_law 369 = .ok (.invokevirtual 35, 3) := by decide +kernel
theorem dL_law_372 : decode cL_law 372 = .ok (.if_icmp .eq 1173, 3) := by decide +kernel
theorem dL_law_375 : decode cL_law 375 = .ok (.iconst 0, 1) := by decide +kernel
theorem dL_law_376 : decode cL_law 376 = .ok (.ireturn, 1) := by decide +kernel
theorem dL_law_377 : decode cL_law 377 = .ok (.aload_n 1, 1) := by decide +kernel
theorem dL_law_378 : decode cL_law 378 = .ok (.invokevirtual 36, 3) := by decide +kernel
theorem dL_law_381 : decode cL_law 381 = .ok (.aload_n 2, 1) := by decide +kernel
theorem dL_law_382 : decode cL_law 382 = .ok (.invokevirtual 40, 3) := by decide +kernel
theorem dL_law_385 : decode cL_law 385 = .ok (.if_icmp .eq 1160, 3) := by decide +kernel
theorem dL_law_388 : decode cL_law 388 = .ok (.iconst 0, 1) := by decide +kernel
theorem dL_law_389 : decode cL_law 389 = .ok (.ireturn, 1) := by decide +kernel
theorem dL_law_390 : decode cL_law 390 = .ok (.aload_n 1, 1) := by decide +kernel
theorem dL_law_391 : decode cL_law 391 = .ok (.aload_n 0, 1) := by decide +kernel
theorem dL_law_392 : decode cL_law 392 = .ok (.iload_n 3, 1) := by decide +kernel
theorem dL_law_393 : decode cL_law 393 = .ok (.iconst 1, 1) := by decide +kernel
theorem dL_law_394 : decode cL_law 394 = .ok (.iadd, 1) := by decide +kernel
theorem dL_law_395 : decode cL_law 395 = .ok (.iaload, 1) := by decide +kernel
theorem dL_law_396 : decode cL_law 396 = .ok (.aload_n 0, 1) := by decide +kernel
theorem dL_law_397 : decode cL_law 397 = .ok (.iload_n 3, 1) := by decide +kernel
theorem dL_law_398 : decode cL_law 398 = .ok (.iconst 2, 1) := by decide +kernel
theorem dL_law_399 : decode cL_law 399 = .ok (.iadd, 1) := by decide +kernel
theorem dL_law_400 : decode cL_law 400 = .ok (.iaload, 1) := by decide +kernel
theorem dL_law_401 : decode cL_law 401 = .ok (.invokevirtual 41, 3) := by decide +kernel
theorem dL_law_404 : decode cL_law 404 = .ok (.aload_n 2, 1) := by decide +kernel
theorem dL_law_405 : decode cL_law 405 = .ok (.aload_n 0, 1) := by decide +kernel
theorem dL_law_406 : decode cL_law 406 = .ok (.iload_n 3, 1) := by decide +kernel
theorem dL_law_407 : decode cL_law 407 = .ok (.iconst 1, 1) := by decide +kernel
theorem dL_law_408 : decode cL_law 408 = .ok (.iadd, 1) := by decide +kernel
theorem dL_law_409 : decode cL_law 409 = .ok (.iaload, 1) := by decide +kernel
theorem dL_law_410 : decode cL_law 410 = .ok (.aload_n 0, 1) := by decide +kernel
theorem dL_law_411 : decode cL_law 411 = .ok (.iload_n 3, 1) := by decide +kernel
theorem dL_law_412 : decode cL_law 412 = .ok (.iconst 2, 1) := by decide +kernel
theorem dL_law_413 : decode cL_law 413 = .ok (.iadd, 1) := by decide +kernel
theorem dL_law_414 : decode cL_law 414 = .ok (.iaload, 1) := by decide +kernel
theorem dL_law_415 : decode cL_law 415 = .ok (.invokevirtual 44, 3) := by decide +kernel
theorem dL_law_418 : decode cL_law 418 = .ok (.if_icmp .eq 1127, 3) := by decide +kernel
theorem dL_law_421 : decode cL_law 421 = .ok (.iconst 0, 1) := by decide +kernel
theorem dL_law_422 : decode cL_law 422 = .ok (.ireturn, 1) := by decide +kernel
theorem dL_law_423 : decode cL_law 423 = .ok (.aload_n 1, 1) := by decide +kernel
theorem dL_law_424 : decode cL_law 424 = .ok (.aload_n 0, 1) := by decide +kernel
theorem dL_law_425 : decode cL_law 425 = .ok (.iload_n 3, 1) := by decide +kernel
theorem dL_law_426 : decode cL_law 426 = .ok (.iconst 1, 1) := by decide +kernel
theorem dL_law_427 : decode cL_law 427 = .ok (.iadd, 1) := by decide +kernel
theorem dL_law_428 : decode cL_law 428 = .ok (.iaload, 1) := by decide +kernel
theorem dL_law_429 : decode cL_law 429 = .ok (.aload_n 0, 1) := by decide +kernel
theorem dL_law_430 : decode cL_law 430 = .ok (.iload_n 3, 1) := by decide +kernel
theorem dL_law_431 : decode cL_law 431 = .ok (.iconst 2, 1) := by decide +kernel
theorem dL_law_432 : decode cL_law 432 = .ok (.iadd, 1) := by decide +kernel
theorem dL_law_433 : decode cL_law 433 = .ok (.iaload, 1) := by decide +kernel
theorem dL_law_434 : decode cL_law 434 = .ok (.aload_n 0, 1) := by decide +kernel
theorem dL_law_435 : decode cL_law 435 = .ok (.iload_n 3, 1) := by decide +kernel
theorem dL_law_436 : decode cL_law 436 = .ok (.iconst 3, 1) := by decide +kernel
theorem dL_law_437 : decode cL_law 437 = .ok (.iadd, 1) := by decide +kernel
theorem dL_law_438 : decode cL_law 438 = .ok (.iaload, 1) := by decide +kernel
theorem dL_law_439 : decode cL_law 439 = .ok (.invokevirtual 45, 3) := by decide +kernel
theorem dL_law_442 : decode cL_law 442 = .ok (.aload_n 2, 1) := by decide +kernel
theorem dL_law_443 : decode cL_law 443 = .ok (.aload_n 0, 1) := by decide +kernel
theorem dL_law_444 : decode cL_law 444 = .ok (.iload_n 3, 1) := by decide +kernel
theorem dL_law_445 : decode cL_law 445 = .ok (.iconst 1, 1) := by decide +kernel
theorem dL_law_446 : decode cL_law 446 = .ok (.iadd, 1) := by decide +kernel
theorem dL_law_447 : decode cL_law 447 = .ok (.iaload, 1) := by decide +kernel
theorem dL_law_448 : decode cL_law 448 = .ok (.aload_n 0, 1) := by decide +kernel
theorem dL_law_449 : decode cL_law 449 = .ok (.iload_n 3, 1) := by decide +kernel
theorem dL_law_450 : decode cL_law 450 = .ok (.iconst 2, 1) := by decide +kernel
theorem dL_law_451 : decode cL_law 451 = .ok (.iadd, 1) := by decide +kernel
theorem dL_law_452 : decode cL_law 452 = .ok (.iaload, 1) := by decide +kernel
theorem dL_law_453 : decode cL_law 453 = .ok (.aload_n 0, 1) := by decide +kernel
theorem dL_law_454 : decode cL_law 454 = .ok (.iload_n 3, 1) := by decide +kernel
theorem dL_law_455 : decode cL_law 455 = .ok (.iconst 3, 1) := by decide +kernel
theorem dL_law_456 : decode cL_law 456 = .ok (.iadd, 1) := by decide +kernel
theorem dL_law_457 : decode cL_law 457 = .ok (.iaload, 1) := by decide +kernel
theorem dL_law_458 : decode cL_law 458 = .ok (.invokevirtual 48, 3) := by decide +kernel
theorem dL_law_461 : decode cL_law 461 = .ok (.if_icmp .eq 1084, 3) := by decide +kernel
theorem dL_law_464 : decode cL_law 464 = .ok (.iconst 0, 1) := by decide +kernel
theorem dL_law_465 : decode cL_law 465 = .ok (.ireturn, 1) := by decide +kernel
theorem dL_law_466 : decode cL_law 466 = .ok (.aload_n 1, 1) := by decide +kernel
theorem dL_law_467 : decode cL_law 467 = .ok (.aload_n 0, 1) := by decide +kernel
theorem dL_law_468 : decode cL_law 468 = .ok (.iload_n 3, 1) := by decide +kernel
theorem dL_law_469 : decode cL_law 469 = .ok (.iconst 1, 1) := by decide +kernel
theorem dL_law_470 : decode cL_law 470 = .ok (.iadd, 1) := by decide +kernel
theorem dL_law_471 : decode cL_law 471 = .ok (.iaload, 1) := by decide +kernel
theorem dL_law_472 : decode cL_law 472 = .ok (.aload_n 0, 1) := by decide +kernel
theorem dL_law_473 : decode cL_law 473 = .ok (.iload_n 3, 1) := by decide +kernel
theorem dL_law_474 : decode cL_law 474 = .ok (.iconst 2, 1) := by decide +kernel
theorem dL_law_475 : decode cL_law 475 = .ok (.iadd, 1) := by decide +kernel
theorem dL_law_476 : decode cL_law 476 = .ok (.iaload, 1) := by decide +kernel
theorem dL_law_477 : decode cL_law 477 = .ok (.invokevirtual 49, 3) := by decide +kernel
theorem dL_law_480 : decode cL_law 480 = .ok (.aload_n 2, 1) := by decide +kernel
theorem dL_law_481 : decode cL_law 481 = .ok (.aload_n 0, 1) := by decide +kernel
theorem dL_law_482 : decode cL_law 482 = .ok (.iload_n 3, 1) := by decide +kernel
theorem dL_law_483 : decode cL_law 483 = .ok (.iconst 1, 1) := by decide +kernel
theorem dL_law_484 : decode cL_law 484 = .ok (.iadd, 1) := by decide +kernel
theorem dL_law_485 : decode cL_law 485 = .ok (.iaload, 1) := by decide +kernel
theorem dL_law_486 : decode cL_law 486 = .ok (.aload_n 0, 1) := by decide +kernel
theorem dL_law_487 : decode cL_law 487 = .ok (.iload_n 3, 1) := by decide +kernel
theorem dL_law_488 : decode cL_law 488 = .ok (.iconst 2, 1) := by decide +kernel
theorem dL_law_489 : decode cL_law 489 = .ok (.iadd, 1) := by decide +kernel
theorem dL_law_490 : decode cL_law 490 = .ok (.iaload, 1) := by decide +kernel
theorem dL_law_491 : decode cL_law 491 = .ok (.invokevirtual 52, 3) := by decide +kernel
theorem dL_law_494 : decode cL_law 494 = .ok (.if_icmp .eq 1051, 3) := by decide +kernel
theorem dL_law_497 : decode cL_law 497 = .ok (.iconst 0, 1) := by decide +kernel
theorem dL_law_498 : decode cL_law 498 = .ok (.ireturn, 1) := by decide +kernel
theorem dL_law_499 : decode cL_law 499 = .ok (.aload_n 1, 1) := by decide +kernel
theorem dL_law_500 : decode cL_law 500 = .ok (.aload_n 0, 1) := by decide +kernel
theorem dL_law_501 : decode cL_law 501 = .ok (.iload_n 3, 1) := by decide +kernel
theorem dL_law_502 : decode cL_law 502 = .ok (.iconst 1, 1) := by decide +kernel
theorem dL_law_503 : decode cL_law 503 = .ok (.iadd, 1) := by decide +kernel
theorem dL_law_504 : decode cL_law 504 = .ok (.iaload, 1) := by decide +kernel
theorem dL_law_505 : decode cL_law 505 = .ok (.i2l, 1) := by decide +kernel
theorem dL_law_506 : decode cL_law 506 = .ok (.bipush 32, 2) := by decide +kernel
theorem dL_law_508 : decode cL_law 508 = .ok (.lshl, 1) := by decide +kernel
theorem dL_law_509 : decode cL_law 509 = .ok (.aload_n 0, 1) := by decide +kernel
theorem dL_law_510 : decode cL_law 510 = .ok (.iload_n 3, 1) := by decide +kernel
theorem dL_law_511 : decode cL_law 511 = .ok (.iconst 2, 1) := by decide +kernel
theorem dL_law_512 : decode cL_law 512 = .ok (.iadd, 1) := by decide +kernel
theorem dL_law_513 : decode cL_law 513 = .ok (.iaload, 1) := by decide +kernel
theorem dL_law_514 : decode cL_law 514 = .ok (.i2l, 1) := by decide +kernel
theorem dL_law_515 : decode cL_law 515 = .ok (.ldc2_w 53, 3) := by decide +kernel
theorem dL_law_518 : decode cL_law 518 = .ok (.land, 1) := by decide +kernel
theorem dL_law_519 : decode cL_law 519 = .ok (.lor, 1) := by decide +kernel
theorem dL_law_520 : decode cL_law 520 = .ok (.aload_n 0, 1) := by decide +kernel
theorem dL_law_521 : decode cL_law 521 = .ok (.iload_n 3, 1) := by decide +kernel
theorem dL_law_522 : decode cL_law 522 = .ok (.iconst 3, 1) := by decide +kernel
theorem dL_law_523 : decode cL_law 523 = .ok (.iadd, 1) := by decide +kernel
theorem dL_law_524 : decode cL_law 524 = .ok (.iaload, 1) := by decide +kernel
theorem dL_law_525 : decode cL_law 525 = .ok (.invokevirtual 55, 3) := by decide +kernel
theorem dL_law_528 : decode cL_law 528 = .ok (.aload_n 2, 1) := by decide +kernel
theorem dL_law_529 : decode cL_law 529 = .ok (.aload_n 0, 1) := by decide +kernel
theorem dL_law_530 : decode cL_law 530 = .ok (.iload_n 3, 1) := by decide +kernel
theorem dL_law_531 : decode cL_law 531 = .ok (.iconst 1, 1) := by decide +kernel
theorem dL_law_532 : decode cL_law 532 = .ok (.iadd, 1) := by decide +kernel
theorem dL_law_533 : decode cL_law 533 = .ok (.iaload, 1) := by decide +kernel
theorem dL_law_534 : decode cL_law 534 = .ok (.i2l, 1) := by decide +kernel
theorem dL_law_535 : decode cL_law 535 = .ok (.bipush 32, 2) := by decide +kernel
theorem dL_law_537 : decode cL_law 537 = .ok (.lshl, 1) := by decide +kernel
theorem dL_law_538 : decode cL_law 538 = .ok (.aload_n 0, 1) := by decide +kernel
theorem dL_law_539 : decode cL_law 539 = .ok (.iload_n 3, 1) := by decide +kernel
theorem dL_law_540 : decode cL_law 540 = .ok (.iconst 2, 1) := by decide +kernel
theorem dL_law_541 : decode cL_law 541 = .ok (.iadd, 1) := by decide +kernel
theorem dL_law_542 : decode cL_law 542 = .ok (.iaload, 1) := by decide +kernel
theorem dL_law_543 : decode cL_law 543 = .ok (.i2l, 1) := by decide +kernel
theorem dL_law_544 : decode cL_law 544 = .ok (.ldc2_w 53, 3) := by decide +kernel
theorem dL_law_547 : decode cL_law 547 = .ok (.land, 1) := by decide +kernel
theorem dL_law_548 : decode cL_law 548 = .ok (.lor, 1) := by decide +kernel
theorem dL_law_549 : decode cL_law 549 = .ok (.aload_n 0, 1) := by decide +kernel
theorem dL_law_550 : decode cL_law 550 = .ok (.iload_n 3, 1) := by decide +kernel
theorem dL_law_551 : decode cL_law 551 = .ok (.iconst 3, 1) := by decide +kernel
theorem dL_law_552 : decode cL_law 552 = .ok (.iadd, 1) := by decide +kernel
theorem dL_law_553 : decode cL_law 553 = .ok (.iaload, 1) := by decide +kernel
theorem dL_law_554 : decode cL_law 554 = .ok (.invokevirtual 59, 3) := by decide +kernel
theorem dL_law_557 : decode cL_law 557 = .ok (.if_icmp .eq 988, 3) := by decide +kernel
theorem dL_law_560 : decode cL_law 560 = .ok (.iconst 0, 1) := by decide +kernel
theorem dL_law_561 : decode cL_law 561 = .ok (.ireturn, 1) := by decide +kernel
theorem dL_law_562 : decode cL_law 562 = .ok (.aload_n 1, 1) := by decide +kernel
theorem dL_law_563 : decode cL_law 563 = .ok (.aload_n 0, 1) := by decide +kernel
theorem dL_law_564 : decode cL_law 564 = .ok (.iload_n 3, 1) := by decide +kernel
theorem dL_law_565 : decode cL_law 565 = .ok (.iconst 1, 1) := by decide +kernel
theorem dL_law_566 : decode cL_law 566 = .ok (.iadd, 1) := by decide +kernel
theorem dL_law_567 : decode cL_law 567 = .ok (.iaload, 1) := by decide +kernel
theorem dL_law_568 : decode cL_law 568 = .ok (.invokevirtual 60, 3) := by decide +kernel
theorem dL_law_571 : decode cL_law 571 = .ok (.aload_n 2, 1) := by decide +kernel
theorem dL_law_572 : decode cL_law 572 = .ok (.aload_n 0, 1) := by decide +kernel
theorem dL_law_573 : decode cL_law 573 = .ok (.iload_n 3, 1) := by decide +kernel
theorem dL_law_574 : decode cL_law 574 = .ok (.iconst 1, 1) := by decide +kernel
theorem dL_law_575 : decode cL_law 575 = .ok (.iadd, 1) := by decide +kernel
theorem dL_law_576 : decode cL_law 576 = .ok (.iaload, 1) := by decide +kernel
theorem dL_law_577 : decode cL_law 577 = .ok (.invokevirtual 63, 3) := by decide +kernel
theorem dL_law_580 : decode cL_law 580 = .ok (.if_icmp .eq 965, 3) := by decide +kernel
theorem dL_law_583 : decode cL_law 583 = .ok (.iconst 0, 1) := by decide +kernel
theorem dL_law_584 : decode cL_law 584 = .ok (.ireturn, 1) := by decide +kernel
theorem dL_law_585 : decode cL_law 585 = .ok (.aload_n 1, 1) := by decide +kernel
theorem dL_law_586 : decode cL_law 586 = .ok (.aload_n 0, 1) := by decide +kernel
theorem dL_law_587 : decode cL_law 587 = .ok (.iload_n 3, 1) := by decide +kernel
theorem dL_law_588 : decode cL_law 588 = .ok (.iconst 1, 1) := by decide +kernel
theorem dL_law_589 : decode cL_law 589 = .ok (.iadd, 1) := by decide +kernel
theorem dL_law_590 : decode cL_law 590 = .ok (.iaload, 1) := by decide +kernel
theorem dL_law_591 : decode cL_law 591 = .ok (.aload_n 0, 1) := by decide +kernel
theorem dL_law_592 : decode cL_law 592 = .ok (.iload_n 3, 1) := by decide +kernel
theorem dL_law_593 : decode cL_law 593 = .ok (.iconst 2, 1) := by decide +kernel
theorem dL_law_594 : decode cL_law 594 = .ok (.iadd, 1) := by decide +kernel
theorem dL_law_595 : decode cL_law 595 = .ok (.iaload, 1) := by decide +kernel
theorem dL_law_596 : decode cL_law 596 = .ok (.aload_n 0, 1) := by decide +kernel
theorem dL_law_597 : decode cL_law 597 = .ok (.iload_n 3, 1) := by decide +kernel
theorem dL_law_598 : decode cL_law 598 = .ok (.iconst 3, 1) := by decide +kernel
theorem dL_law_599 : decode cL_law 599 = .ok (.iadd, 1) := by decide +kernel
theorem dL_law_600 : decode cL_law 600 = .ok (.iaload, 1) := by decide +kernel
theorem dL_law_601 : decode cL_law 601 = .ok (.aload_n 0, 1) := by decide +kernel
theorem dL_law_602 : decode cL_law 602 = .ok (.iload_n 3, 1) := by decide +kernel
theorem dL_law_603 : decode cL_law 603 = .ok (.iconst 4, 1) := by decide +kernel
theorem dL_law_604 : decode cL_law 604 = .ok (.iadd, 1) := by decide +kernel
theorem dL_law_605 : decode cL_law 605 = .ok (.iaload, 1) := by decide +kernel
theorem dL_law_606 : decode cL_law 606 = .ok (.invokevirtual 64, 3) := by decide +kernel
theorem dL_law_609 : decode cL_law 609 = .ok (.aload_n 2, 1) := by decide +kernel
theorem dL_law_610 : decode cL_law 610 = .ok (.aload_n 0, 1) := by decide +kernel
theorem dL_law_611 : decode cL_law 611 = .ok (.iload_n 3, 1) := by decide +kernel
theorem dL_law_612 : decode cL_law 612 = .ok (.iconst 1, 1) := by decide +kernel
theorem dL_law_613 : decode cL_law 613 = .ok (.iadd, 1) := by decide +kernel
theorem dL_law_614 : decode cL_law 614 = .ok (.iaload, 1) := by decide +kernel
theorem dL_law_615 : decode cL_law 615 = .ok (.aload_n 0, 1) := by decide +kernel
theorem dL_law_616 : decode cL_law 616 = .ok (.iload_n 3, 1) := by decide +kernel
theorem dL_law_617 : decode cL_law 617 = .ok (.iconst 2, 1) := by decide +kernel
theorem dL_law_618 : decode cL_law 618 = .ok (.iadd, 1) := by decide +kernel
theorem dL_law_619 : decode cL_law 619 = .ok (.iaload, 1) := by decide +kernel
theorem dL_law_620 : decode cL_law 620 = .ok (.aload_n 0, 1) := by decide +kernel
theorem dL_law_621 : decode cL_law 621 = .ok (.iload_n 3, 1) := by decide +kernel
theorem dL_law_622 : decode cL_law 622 = .ok (.iconst 3, 1) := by decide +kernel
theorem dL_law_623 : decode cL_law 623 = .ok (.iadd, 1) := by decide +kernel
theorem dL_law_624 : decode cL_law 624 = .ok (.iaload, 1) := by decide +kernel
theorem dL_law_625 : decode cL_law 625 = .ok (.aload_n 0, 1) := by decide +kernel
theorem dL_law_626 : decode cL_law 626 = .ok (.iload_n 3, 1) := by decide +kernel
theorem dL_law_627 : decode cL_law 627 = .ok (.iconst 4, 1) := by decide +kernel
theorem dL_law_628 : decode cL_law 628 = .ok (.iadd, 1) := by decide +kernel
theorem dL_law_629 : decode cL_law 629 = .ok (.iaload, 1) := by decide +kernel
theorem dL_law_630 : decode cL_law 630 = .ok (.invokevirtual 68, 3) := by decide +kernel
theorem dL_law_633 : decode cL_law 633 = .ok (.if_icmp .eq 912, 3) := by decide +kernel
theorem dL_law_636 : decode cL_law 636 = .ok (.iconst 0, 1) := by decide +kernel
theorem dL_law_637 : decode cL_law 637 = .ok (.ireturn, 1) := by decide +kernel
theorem dL_law_638 : decode cL_law 638 = .ok (.aload_n 1, 1) := by decide +kernel
theorem dL_law_639 : decode cL_law 639 = .ok (.aload_n 0, 1) := by decide +kernel
theorem dL_law_640 : decode cL_law 640 = .ok (.iload_n 3, 1) := by decide +kernel
theorem dL_law_641 : decode cL_law 641 = .ok (.iconst 1, 1) := by decide +kernel
theorem dL_law_642 : decode cL_law 642 = .ok (.iadd, 1) := by decide +kernel
theorem dL_law_643 : decode cL_law 643 = .ok (.iaload, 1) := by decide +kernel
theorem dL_law_644 : decode cL_law 644 = .ok (.aload_n 0, 1) := by decide +kernel
theorem dL_law_645 : decode cL_law 645 = .ok (.iload_n 3, 1) := by decide +kernel
theorem dL_law_646 : decode cL_law 646 = .ok (.iconst 2, 1) := by decide +kernel
theorem dL_law_647 : decode cL_law 647 = .ok (.iadd, 1) := by decide +kernel
theorem dL_law_648 : decode cL_law 648 = .ok (.iaload, 1) := by decide +kernel
theorem dL_law_649 : decode cL_law 649 = .ok (.aload_n 0, 1) := by decide +kernel
theorem dL_law_650 : decode cL_law 650 = .ok (.iload_n 3, 1) := by decide +kernel
theorem dL_law_651 : decode cL_law 651 = .ok (.iconst 3, 1) := by decide +kernel
theorem dL_law_652 : decode cL_law 652 = .ok (.iadd, 1) := by decide +kernel
theorem dL_law_653 : decode cL_law 653 = .ok (.iaload, 1) := by decide +kernel
theorem dL_law_654 : decode cL_law 654 = .ok (.aload_n 0, 1) := by decide +kernel
theorem dL_law_655 : decode cL_law 655 = .ok (.iload_n 3, 1) := by decide +kernel
theorem dL_law_656 : decode cL_law 656 = .ok (.iconst 4, 1) := by decide +kernel
theorem dL_law_657 : decode cL_law 657 = .ok (.iadd, 1) := by decide +kernel
theorem dL_law_658 : decode cL_law 658 = .ok (.iaload, 1) := by decide +kernel
theorem dL_law_659 : decode cL_law 659 = .ok (.aload_n 0, 1) := by decide +kernel
theorem dL_law_660 : decode cL_law 660 = .ok (.iload_n 3, 1) := by decide +kernel
theorem dL_law_661 : decode cL_law 661 = .ok (.iconst 5, 1) := by decide +kernel
theorem dL_law_662 : decode cL_law 662 = .ok (.iadd, 1) := by decide +kernel
theorem dL_law_663 : decode cL_law 663 = .ok (.iaload, 1) := by decide +kernel
theorem dL_law_664 : decode cL_law 664 = .ok (.invokevirtual 69, 3) := by decide +kernel
theorem dL_law_667 : decode cL_law 667 = .ok (.aload_n 2, 1) := by decide +kernel
theorem dL_law_668 : decode cL_law 668 = .ok (.aload_n 0, 1) := by decide +kernel
theorem dL_law_669 : decode cL_law 669 = .ok (.iload_n 3, 1) := by decide +kernel
theorem dL_law_670 : decode cL_law 670 = .ok (.iconst 1, 1) := by decide +kernel
theorem dL_law_671 : decode cL_law 671 = .ok (.iadd, 1) := by decide +kernel
theorem dL_law_672 : decode cL_law 672 = .ok (.iaload, 1) := by decide +kernel
theorem dL_law_673 : decode cL_law 673 = .ok (.aload_n 0, 1) := by decide +kernel
theorem dL_law_674 : decode cL_law 674 = .ok (.iload_n 3, 1) := by decide +kernel
theorem dL_law_675 : decode cL_law 675 = .ok (.iconst 2, 1) := by decide +kernel
theorem dL_law_676 : decode cL_law 676 = .ok (.iadd, 1) := by decide +kernel
theorem dL_law_677 : decode cL_law 677 = .ok (.iaload, 1) := by decide +kernel
theorem dL_law_678 : decode cL_law 678 = .ok (.aload_n 0, 1) := by decide +kernel
theorem dL_law_679 : decode cL_law 679 = .ok (.iload_n 3, 1) := by decide +kernel
theorem dL_law_680 : decode cL_law 680 = .ok (.iconst 3, 1) := by decide +kernel
theorem dL_law_681 : decode cL_law 681 = .ok (.iadd, 1) := by decide +kernel
theorem dL_law_682 : decode cL_law 682 = .ok (.iaload, 1) := by decide +kernel
theorem dL_law_683 : decode cL_law 683 = .ok (.aload_n 0, 1) := by decide +kernel
theorem dL_law_684 : decode cL_law 684 = .ok (.iload_n 3, 1) := by decide +kernel
theorem dL_law_685 : decode cL_law 685 = .ok (.iconst 4, 1) := by decide +kernel
theorem dL_law_686 : decode cL_law 686 = .ok (.iadd, 1) := by decide +kernel
theorem dL_law_687 : decode cL_law 687 = .ok (.iaload, 1) := by decide +kernel
theorem dL_law_688 : decode cL_law 688 = .ok (.aload_n 0, 1) := by decide +kernel
theorem dL_law_689 : decode cL_law 689 = .ok (.iload_n 3, 1) := by decide +kernel
theorem dL_law_690 : decode cL_law 690 = .ok (.iconst 5, 1) := by decide +kernel
theorem dL_law_691 : decode cL_law 691 = .ok (.iadd, 1) := by decide +kernel
theorem dL_law_692 : decode cL_law 692 = .ok (.iaload, 1) := by decide +kernel
theorem dL_law_693 : decode cL_law 693 = .ok (.invokevirtual 73, 3) := by decide +kernel
theorem dL_law_696 : decode cL_law 696 = .ok (.if_icmp .eq 849, 3) := by decide +kernel
theorem dL_law_699 : decode cL_law 699 = .ok (.iconst 0, 1) := by decide +kernel
theorem dL_law_700 : decode cL_law 700 = .ok (.ireturn, 1) := by decide +kernel
theorem dL_law_701 : decode cL_law 701 = .ok (.aload_n 1, 1) := by decide +kernel
theorem dL_law_702 : decode cL_law 702 = .ok (.aload_n 0, 1) := by decide +kernel
theorem dL_law_703 : decode cL_law 703 = .ok (.iload_n 3, 1) := by decide +kernel
theorem dL_law_704 : decode cL_law 704 = .ok (.iconst 1, 1) := by decide +kernel
theorem dL_law_705 : decode cL_law 705 = .ok (.iadd, 1) := by decide +kernel
theorem dL_law_706 : decode cL_law 706 = .ok (.iaload, 1) := by decide +kernel
theorem dL_law_707 : decode cL_law 707 = .ok (.aload_n 0, 1) := by decide +kernel
theorem dL_law_708 : decode cL_law 708 = .ok (.iload_n 3, 1) := by decide +kernel
theorem dL_law_709 : decode cL_law 709 = .ok (.iconst 2, 1) := by decide +kernel
theorem dL_law_710 : decode cL_law 710 = .ok (.iadd, 1) := by decide +kernel
theorem dL_law_711 : decode cL_law 711 = .ok (.iaload, 1) := by decide +kernel
theorem dL_law_712 : decode cL_law 712 = .ok (.invokevirtual 74, 3) := by decide +kernel
theorem dL_law_715 : decode cL_law 715 = .ok (.aload_n 2, 1) := by decide +kernel
theorem dL_law_716 : decode cL_law 716 = .ok (.aload_n 0, 1) := by decide +kernel
theorem dL_law_717 : decode cL_law 717 = .ok (.iload_n 3, 1) := by decide +kernel
theorem dL_law_718 : decode cL_law 718 = .ok (.iconst 1, 1) := by decide +kernel
theorem dL_law_719 : decode cL_law 719 = .ok (.iadd, 1) := by decide +kernel
theorem dL_law_720 : decode cL_law 720 = .ok (.iaload, 1) := by decide +kernel
theorem dL_law_721 : decode cL_law 721 = .ok (.aload_n 0, 1) := by decide +kernel
theorem dL_law_722 : decode cL_law 722 = .ok (.iload_n 3, 1) := by decide +kernel
theorem dL_law_723 : decode cL_law 723 = .ok (.iconst 2, 1) := by decide +kernel
theorem dL_law_724 : decode cL_law 724 = .ok (.iadd, 1) := by decide +kernel
theorem dL_law_725 : decode cL_law 725 = .ok (.iaload, 1) := by decide +kernel
theorem dL_law_726 : decode cL_law 726 = .ok (.invokevirtual 77, 3) := by decide +kernel
theorem dL_law_729 : decode cL_law 729 = .ok (.if_icmp .eq 816, 3) := by decide +kernel
theorem dL_law_732 : decode cL_law 732 = .ok (.iconst 0, 1) := by decide +kernel
theorem dL_law_733 : decode cL_law 733 = .ok (.ireturn, 1) := by decide +kernel
theorem dL_law_734 : decode cL_law 734 = .ok (.aload_n 1, 1) := by decide +kernel
theorem dL_law_735 : decode cL_law 735 = .ok (.aload_n 0, 1) := by decide +kernel
theorem dL_law_736 : decode cL_law 736 = .ok (.iload_n 3, 1) := by decide +kernel
theorem dL_law_737 : decode cL_law 737 = .ok (.iconst 1, 1) := by decide +kernel
theorem dL_law_738 : decode cL_law 738 = .ok (.iadd, 1) := by decide +kernel
theorem dL_law_739 : decode cL_law 739 = .ok (.iaload, 1) := by decide +kernel
theorem dL_law_740 : decode cL_law 740 = .ok (.invokevirtual 78, 3) := by decide +kernel
theorem dL_law_743 : decode cL_law 743 = .ok (.aload_n 2, 1) := by decide +kernel
theorem dL_law_744 : decode cL_law 744 = .ok (.aload_n 0, 1) := by decide +kernel
theorem dL_law_745 : decode cL_law 745 = .ok (.iload_n 3, 1) := by decide +kernel
theorem dL_law_746 : decode cL_law 746 = .ok (.iconst 1, 1) := by decide +kernel
theorem dL_law_747 : decode cL_law 747 = .ok (.iadd, 1) := by decide +kernel
theorem dL_law_748 : decode cL_law 748 = .ok (.iaload, 1) := by decide +kernel
theorem dL_law_749 : decode cL_law 749 = .ok (.invokevirtual 81, 3) := by decide +kernel
theorem dL_law_752 : decode cL_law 752 = .ok (.if_icmp .eq 793, 3) := by decide +kernel
theorem dL_law_755 : decode cL_law 755 = .ok (.iconst 0, 1) := by decide +kernel
theorem dL_law_756 : decode cL_law 756 = .ok (.ireturn, 1) := by decide +kernel
theorem dL_law_757 : decode cL_law 757 = .ok (.aload_n 1, 1) := by decide +kernel
theorem dL_law_758 : decode cL_law 758 = .ok (.aload_n 0, 1) := by decide +kernel
theorem dL_law_759 : decode cL_law 759 = .ok (.iload_n 3, 1) := by decide +kernel
theorem dL_law_760 : decode cL_law 760 = .ok (.iconst 1, 1) := by decide +kernel
theorem dL_law_761 : decode cL_law 761 = .ok (.iadd, 1) := by decide +kernel
theorem dL_law_762 : decode cL_law 762 = .ok (.iaload, 1) := by decide +kernel
theorem dL_law_763 : decode cL_law 763 = .ok (.aload_n 0, 1) := by decide +kernel
theorem dL_law_764 : decode cL_law 764 = .ok (.iload_n 3, 1) := by decide +kernel
theorem dL_law_765 : decode cL_law 765 = .ok (.iconst 2, 1) := by decide +kernel
theorem dL_law_766 : decode cL_law 766 = .ok (.iadd, 1) := by decide +kernel
theorem dL_law_767 : decode cL_law 767 = .ok (.iaload, 1) := by decide +kernel
theorem dL_law_768 : decode cL_law 768 = .ok (.aload_n 0, 1) := by decide +kernel
theorem dL_law_769 : decode cL_law 769 = .ok (.iload_n 3, 1) := by decide +kernel
theorem dL_law_770 : decode cL_law 770 = .ok (.iconst 3, 1) := by decide +kernel
theorem dL_law_771 : decode cL_law 771 = .ok (.iadd, 1) := by decide +kernel
theorem dL_law_772 : decode cL_law 772 = .ok (.iaload, 1) := by decide +kernel
theorem dL_law_773 : decode cL_law 773 = .ok (.invokevirtual 82, 3) := by decide +kernel
theorem dL_law_776 : decode cL_law 776 = .ok (.aload_n 2, 1) := by decide +kernel
theorem dL_law_777 : decode cL_law 777 = .ok (.aload_n 0, 1) := by decide +kernel
theorem dL_law_778 : decode cL_law 778 = .ok (.iload_n 3, 1) := by decide +kernel
theorem dL_law_779 : decode cL_law 779 = .ok (.iconst 1, 1) := by decide +kernel
theorem dL_law_780 : decode cL_law 780 = .ok (.iadd, 1) := by decide +kernel
theorem dL_law_781 : decode cL_law 781 = .ok (.iaload, 1) := by decide +kernel
theorem dL_law_782 : decode cL_law 782 = .ok (.aload_n 0, 1) := by decide +kernel
theorem dL_law_783 : decode cL_law 783 = .ok (.iload_n 3, 1) := by decide +kernel
theorem dL_law_784 : decode cL_law 784 = .ok (.iconst 2, 1) := by decide +kernel
theorem dL_law_785 : decode cL_law 785 = .ok (.iadd, 1) := by decide +kernel
theorem dL_law_786 : decode cL_law 786 = .ok (.iaload, 1) := by decide +kernel
theorem dL_law_787 : decode cL_law 787 = .ok (.aload_n 0, 1) := by decide +kernel
theorem dL_law_788 : decode cL_law 788 = .ok (.iload_n 3, 1) := by decide +kernel
theorem dL_law_789 : decode cL_law 789 = .ok (.iconst 3, 1) := by decide +kernel
theorem dL_law_790 : decode cL_law 790 = .ok (.iadd, 1) := by decide +kernel
theorem dL_law_791 : decode cL_law 791 = .ok (.iaload, 1) := by decide +kernel
theorem dL_law_792 : decode cL_law 792 = .ok (.invokevirtual 85, 3) := by decide +kernel
theorem dL_law_795 : decode cL_law 795 = .ok (.if_icmp .eq 750, 3) := by decide +kernel
theorem dL_law_798 : decode cL_law 798 = .ok (.iconst 0, 1) := by decide +kernel
theorem dL_law_799 : decode cL_law 799 = .ok (.ireturn, 1) := by decide +kernel
theorem dL_law_800 : decode cL_law 800 = .ok (.aload_n 1, 1) := by decide +kernel
theorem dL_law_801 : decode cL_law 801 = .ok (.aload_n 0, 1) := by decide +kernel
theorem dL_law_802 : decode cL_law 802 = .ok (.iload_n 3, 1) := by decide +kernel
theorem dL_law_803 : decode cL_law 803 = .ok (.iconst 1, 1) := by decide +kernel
theorem dL_law_804 : decode cL_law 804 = .ok (.iadd, 1) := by decide +kernel
theorem dL_law_805 : decode cL_law 805 = .ok (.iaload, 1) := by decide +kernel
theorem dL_law_806 : decode cL_law 806 = .ok (.invokevirtual 86, 3) := by decide +kernel
theorem dL_law_809 : decode cL_law 809 = .ok (.aload_n 2, 1) := by decide +kernel
theorem dL_law_810 : decode cL_law 810 = .ok (.aload_n 0, 1) := by decide +kernel
theorem dL_law_811 : decode cL_law 811 = .ok (.iload_n 3, 1) := by decide +kernel
theorem dL_law_812 : decode cL_law 812 = .ok (.iconst 1, 1) := by decide +kernel
theorem dL_law_813 : decode cL_law 813 = .ok (.iadd, 1) := by decide +kernel
theorem dL_law_814 : decode cL_law 814 = .ok (.iaload, 1) := by decide +kernel
theorem dL_law_815 : decode cL_law 815 = .ok (.invokevirtual 89, 3) := by decide +kernel
theorem dL_law_818 : decode cL_law 818 = .ok (.if_icmp .eq 727, 3) := by decide +kernel
theorem dL_law_821 : decode cL_law 821 = .ok (.iconst 0, 1) := by decide +kernel
theorem dL_law_822 : decode cL_law 822 = .ok (.ireturn, 1) := by decide +kernel
theorem dL_law_823 : decode cL_law 823 = .ok (.aload_n 1, 1) := by decide +kernel
theorem dL_law_824 : decode cL_law 824 = .ok (.aload_n 0, 1) := by decide +kernel
theorem dL_law_825 : decode cL_law 825 = .ok (.iload_n 3, 1) := by decide +kernel
theorem dL_law_826 : decode cL_law 826 = .ok (.iconst 1, 1) := by decide +kernel
theorem dL_law_827 : decode cL_law 827 = .ok (.iadd, 1) := by decide +kernel
theorem dL_law_828 : decode cL_law 828 = .ok (.iaload, 1) := by decide +kernel
theorem dL_law_829 : decode cL_law 829 = .ok (.invokevirtual 90, 3) := by decide +kernel
theorem dL_law_832 : decode cL_law 832 = .ok (.aload_n 2, 1) := by decide +kernel
theorem dL_law_833 : decode cL_law 833 = .ok (.aload_n 0, 1) := by decide +kernel
theorem dL_law_834 : decode cL_law 834 = .ok (.iload_n 3, 1) := by decide +kernel
theorem dL_law_835 : decode cL_law 835 = .ok (.iconst 1, 1) := by decide +kernel
theorem dL_law_836 : decode cL_law 836 = .ok (.iadd, 1) := by decide +kernel
theorem dL_law_837 : decode cL_law 837 = .ok (.iaload, 1) := by decide +kernel
theorem dL_law_838 : decode cL_law 838 = .ok (.invokevirtual 93, 3) := by decide +kernel
theorem dL_law_841 : decode cL_law 841 = .ok (.if_icmp .eq 704, 3) := by decide +kernel
theorem dL_law_844 : decode cL_law 844 = .ok (.iconst 0, 1) := by decide +kernel
theorem dL_law_845 : decode cL_law 845 = .ok (.ireturn, 1) := by decide +kernel
theorem dL_law_846 : decode cL_law 846 = .ok (.aload_n 1, 1) := by decide +kernel
theorem dL_law_847 : decode cL_law 847 = .ok (.aload_n 0, 1) := by decide +kernel
theorem dL_law_848 : decode cL_law 848 = .ok (.iload_n 3, 1) := by decide +kernel
theorem dL_law_849 : decode cL_law 849 = .ok (.iconst 1, 1) := by decide +kernel
theorem dL_law_850 : decode cL_law 850 = .ok (.iadd, 1) := by decide +kernel
theorem dL_law_851 : decode cL_law 851 = .ok (.iaload, 1) := by decide +kernel
theorem dL_law_852 : decode cL_law 852 = .ok (.aload_n 0, 1) := by decide +kernel
theorem dL_law_853 : decode cL_law 853 = .ok (.iload_n 3, 1) := by decide +kernel
theorem dL_law_854 : decode cL_law 854 = .ok (.iconst 2, 1) := by decide +kernel
theorem dL_law_855 : decode cL_law 855 = .ok (.iadd, 1) := by decide +kernel
theorem dL_law_856 : decode cL_law 856 = .ok (.iaload, 1) := by decide +kernel
theorem dL_law_857 : decode cL_law 857 = .ok (.invokevirtual 94, 3) := by decide +kernel
theorem dL_law_860 : decode cL_law 860 = .ok (.aload_n 2, 1) := by decide +kernel
theorem dL_law_861 : decode cL_law 861 = .ok (.aload_n 0, 1) := by decide +kernel
theorem dL_law_862 : decode cL_law 862 = .ok (.iload_n 3, 1) := by decide +kernel
theorem dL_law_863 : decode cL_law 863 = .ok (.iconst 1, 1) := by decide +kernel
theorem dL_law_864 : decode cL_law 864 = .ok (.iadd, 1) := by decide +kernel
theorem dL_law_865 : decode cL_law 865 = .ok (.iaload, 1) := by decide +kernel
theorem dL_law_866 : decode cL_law 866 = .ok (.aload_n 0, 1) := by decide +kernel
theorem dL_law_867 : decode cL_law 867 = .ok (.iload_n 3, 1) := by decide +kernel
theorem dL_law_868 : decode cL_law 868 = .ok (.iconst 2, 1) := by decide +kernel
theorem dL_law_869 : decode cL_law 869 = .ok (.iadd, 1) := by decide +kernel
theorem dL_law_870 : decode cL_law 870 = .ok (.iaload, 1) := by decide +kernel
theorem dL_law_871 : decode cL_law 871 = .ok (.invokevirtual 97, 3) := by decide +kernel
theorem dL_law_874 : decode cL_law 874 = .ok (.if_icmp .eq 671, 3) := by decide +kernel
theorem dL_law_877 : decode cL_law 877 = .ok (.iconst 0, 1) := by decide +kernel
theorem dL_law_878 : decode cL_law 878 = .ok (.ireturn, 1) := by decide +kernel
theorem dL_law_879 : decode cL_law 879 = .ok (.aload_n 1, 1) := by decide +kernel
theorem dL_law_880 : decode cL_law 880 = .ok (.aload_n 0, 1) := by decide +kernel
theorem dL_law_881 : decode cL_law 881 = .ok (.iload_n 3, 1) := by decide +kernel
theorem dL_law_882 : decode cL_law 882 = .ok (.iconst 1, 1) := by decide +kernel
theorem dL_law_883 : decode cL_law 883 = .ok (.iadd, 1) := by decide +kernel
theorem dL_law_884 : decode cL_law 884 = .ok (.iaload, 1) := by decide +kernel
theorem dL_law_885 : decode cL_law 885 = .ok (.aload_n 0, 1) := by decide +kernel
theorem dL_law_886 : decode cL_law 886 = .ok (.iload_n 3, 1) := by decide +kernel
theorem dL_law_887 : decode cL_law 887 = .ok (.iconst 2, 1) := by decide +kernel
theorem dL_law_888 : decode cL_law 888 = .ok (.iadd, 1) := by decide +kernel
theorem dL_law_889 : decode cL_law 889 = .ok (.iaload, 1) := by decide +kernel
theorem dL_law_890 : decode cL_law 890 = .ok (.aload_n 0, 1) := by decide +kernel
theorem dL_law_891 : decode cL_law 891 = .ok (.iload_n 3, 1) := by decide +kernel
theorem dL_law_892 : decode cL_law 892 = .ok (.iconst 3, 1) := by decide +kernel
theorem dL_law_893 : decode cL_law 893 = .ok (.iadd, 1) := by decide +kernel
theorem dL_law_894 : decode cL_law 894 = .ok (.iaload, 1) := by decide +kernel
theorem dL_law_895 : decode cL_law 895 = .ok (.invokevirtual 98, 3) := by decide +kernel
theorem dL_law_898 : decode cL_law 898 = .ok (.aload_n 2, 1) := by decide +kernel
theorem dL_law_899 : decode cL_law 899 = .ok (.aload_n 0, 1) := by decide +kernel
theorem dL_law_900 : decode cL_law 900 = .ok (.iload_n 3, 1) := by decide +kernel
theorem dL_law_901 : decode cL_law 901 = .ok (.iconst 1, 1) := by decide +kernel
theorem dL_law_902 : decode cL_law 902 = .ok (.iadd, 1) := by decide +kernel
theorem dL_law_903 : decode cL_law 903 = .ok (.iaload, 1) := by decide +kernel
theorem dL_law_904 : decode cL_law 904 = .ok (.aload_n 0, 1) := by decide +kernel
theorem dL_law_905 : decode cL_law 905 = .ok (.iload_n 3, 1) := by decide +kernel
theorem dL_law_906 : decode cL_law 906 = .ok (.iconst 2, 1) := by decide +kernel
theorem dL_law_907 : decode cL_law 907 = .ok (.iadd, 1) := by decide +kernel
theorem dL_law_908 : decode cL_law 908 = .ok (.iaload, 1) := by decide +kernel
theorem dL_law_909 : decode cL_law 909 = .ok (.aload_n 0, 1) := by decide +kernel
theorem dL_law_910 : decode cL_law 910 = .ok (.iload_n 3, 1) := by decide +kernel
theorem dL_law_911 : decode cL_law 911 = .ok (.iconst 3, 1) := by decide +kernel
theorem dL_law_912 : decode cL_law 912 = .ok (.iadd, 1) := by decide +kernel
theorem dL_law_913 : decode cL_law 913 = .ok (.iaload, 1) := by decide +kernel
theorem dL_law_914 : decode cL_law 914 = .ok (.invokevirtual 101, 3) := by decide +kernel
theorem dL_law_917 : decode cL_law 917 = .ok (.if_icmp .eq 628, 3) := by decide +kernel
theorem dL_law_920 : decode cL_law 920 = .ok (.iconst 0, 1) := by decide +kernel
theorem dL_law_921 : decode cL_law 921 = .ok (.ireturn, 1) := by decide +kernel
theorem dL_law_922 : decode cL_law 922 = .ok (.aload_n 1, 1) := by decide +kernel
theorem dL_law_923 : decode cL_law 923 = .ok (.aload_n 0, 1) := by decide +kernel
theorem dL_law_924 : decode cL_law 924 = .ok (.iload_n 3, 1) := by decide +kernel
theorem dL_law_925 : decode cL_law 925 = .ok (.iconst 1, 1) := by decide +kernel
theorem dL_law_926 : decode cL_law 926 = .ok (.iadd, 1) := by decide +kernel
theorem dL_law_927 : decode cL_law 927 = .ok (.iaload, 1) := by decide +kernel
theorem dL_law_928 : decode cL_law 928 = .ok (.invokevirtual 102, 3) := by decide +kernel
theorem dL_law_931 : decode cL_law 931 = .ok (.aload_n 2, 1) := by decide +kernel
theorem dL_law_932 : decode cL_law 932 = .ok (.aload_n 0, 1) := by decide +kernel
theorem dL_law_933 : decode cL_law 933 = .ok (.iload_n 3, 1) := by decide +kernel
theorem dL_law_934 : decode cL_law 934 = .ok (.iconst 1, 1) := by decide +kernel
theorem dL_law_935 : decode cL_law 935 = .ok (.iadd, 1) := by decide +kernel
theorem dL_law_936 : decode cL_law 936 = .ok (.iaload, 1) := by decide +kernel
theorem dL_law_937 : decode cL_law 937 = .ok (.invokevirtual 105, 3) := by decide +kernel
theorem dL_law_940 : decode cL_law 940 = .ok (.if_icmp .eq 605, 3) := by decide +kernel
theorem dL_law_943 : decode cL_law 943 = .ok (.iconst 0, 1) := by decide +kernel
theorem dL_law_944 : decode cL_law 944 = .ok (.ireturn, 1) := by decide +kernel
theorem dL_law_945 : decode cL_law 945 = .ok (.aload_n 1, 1) := by decide +kernel
theorem dL_law_946 : decode cL_law 946 = .ok (.aload_n 0, 1) := by decide +kernel
theorem dL_law_947 : decode cL_law 947 = .ok (.iload_n 3, 1) := by decide +kernel
theorem dL_law_948 : decode cL_law 948 = .ok (.iconst 1, 1) := by decide +kernel
theorem dL_law_949 : decode cL_law 949 = .ok (.iadd, 1) := by decide +kernel
theorem dL_law_950 : decode cL_law 950 = .ok (.iaload, 1) := by decide +kernel
theorem dL_law_951 : decode cL_law 951 = .ok (.aload_n 0, 1) := by decide +kernel
theorem dL_law_952 : decode cL_law 952 = .ok (.iload_n 3, 1) := by decide +kernel
theorem dL_law_953 : decode cL_law 953 = .ok (.iconst 2, 1) := by decide +kernel
theorem dL_law_954 : decode cL_law 954 = .ok (.iadd, 1) := by decide +kernel
theorem dL_law_955 : decode cL_law 955 = .ok (.iaload, 1) := by decide +kernel
theorem dL_law_956 : decode cL_law 956 = .ok (.aload_n 0, 1) := by decide +kernel
theorem dL_law_957 : decode cL_law 957 = .ok (.iload_n 3, 1) := by decide +kernel
theorem dL_law_958 : decode cL_law 958 = .ok (.iconst 3, 1) := by decide +kernel
theorem dL_law_959 : decode cL_law 959 = .ok (.iadd, 1) := by decide +kernel
theorem dL_law_960 : decode cL_law 960 = .ok (.iaload, 1) := by decide +kernel
theorem dL_law_961 : decode cL_law 961 = .ok (.invokevirtual 106, 3) := by decide +kernel
theorem dL_law_964 : decode cL_law 964 = .ok (.aload_n 2, 1) := by decide +kernel
theorem dL_law_965 : decode cL_law 965 = .ok (.aload_n 0, 1) := by decide +kernel
theorem dL_law_966 : decode cL_law 966 = .ok (.iload_n 3, 1) := by decide +kernel
theorem dL_law_967 : decode cL_law 967 = .ok (.iconst 1, 1) := by decide +kernel
theorem dL_law_968 : decode cL_law 968 = .ok (.iadd, 1) := by decide +kernel
theorem dL_law_969 : decode cL_law 969 = .ok (.iaload, 1) := by decide +kernel
theorem dL_law_970 : decode cL_law 970 = .ok (.aload_n 0, 1) := by decide +kernel
theorem dL_law_971 : decode cL_law 971 = .ok (.iload_n 3, 1) := by decide +kernel
theorem dL_law_972 : decode cL_law 972 = .ok (.iconst 2, 1) := by decide +kernel
theorem dL_law_973 : decode cL_law 973 = .ok (.iadd, 1) := by decide +kernel
theorem dL_law_974 : decode cL_law 974 = .ok (.iaload, 1) := by decide +kernel
theorem dL_law_975 : decode cL_law 975 = .ok (.aload_n 0, 1) := by decide +kernel
theorem dL_law_976 : decode cL_law 976 = .ok (.iload_n 3, 1) := by decide +kernel
theorem dL_law_977 : decode cL_law 977 = .ok (.iconst 3, 1) := by decide +kernel
theorem dL_law_978 : decode cL_law 978 = .ok (.iadd, 1) := by decide +kernel
theorem dL_law_979 : decode cL_law 979 = .ok (.iaload, 1) := by decide +kernel
theorem dL_law_980 : decode cL_law 980 = .ok (.invokevirtual 109, 3) := by decide +kernel
theorem dL_law_983 : decode cL_law 983 = .ok (.if_icmp .eq 562, 3) := by decide +kernel
theorem dL_law_986 : decode cL_law 986 = .ok (.iconst 0, 1) := by decide +kernel
theorem dL_law_987 : decode cL_law 987 = .ok (.ireturn, 1) := by decide +kernel
theorem dL_law_988 : decode cL_law 988 = .ok (.aload_n 1, 1) := by decide +kernel
theorem dL_law_989 : decode cL_law 989 = .ok (.aload_n 0, 1) := by decide +kernel
theorem dL_law_990 : decode cL_law 990 = .ok (.iload_n 3, 1) := by decide +kernel
theorem dL_law_991 : decode cL_law 991 = .ok (.iconst 1, 1) := by decide +kernel
theorem dL_law_992 : decode cL_law 992 = .ok (.iadd, 1) := by decide +kernel
theorem dL_law_993 : decode cL_law 993 = .ok (.iaload, 1) := by decide +kernel
theorem dL_law_994 : decode cL_law 994 = .ok (.aload_n 0, 1) := by decide +kernel
theorem dL_law_995 : decode cL_law 995 = .ok (.iload_n 3, 1) := by decide +kernel
theorem dL_law_996 : decode cL_law 996 = .ok (.iconst 2, 1) := by decide +kernel
theorem dL_law_997 : decode cL_law 997 = .ok (.iadd, 1) := by decide +kernel
theorem dL_law_998 : decode cL_law 998 = .ok (.iaload, 1) := by decide +kernel
theorem dL_law_999 : decode cL_law 999 = .ok (.invokevirtual 110, 3) := by decide +kernel
theorem dL_law_1002 : decode cL_law 1002 = .ok (.aload_n 2, 1) := by decide +kernel
theorem dL_law_1003 : decode cL_law 1003 = .ok (.aload_n 0, 1) := by decide +kernel
theorem dL_law_1004 : decode cL_law 1004 = .ok (.iload_n 3, 1) := by decide +kernel
theorem dL_law_1005 : decode cL_law 1005 = .ok (.iconst 1, 1) := by decide +kernel
theorem dL_law_1006 : decode cL_law 1006 = .ok (.iadd, 1) := by decide +kernel
theorem dL_law_1007 : decode cL_law 1007 = .ok (.iaload, 1) := by decide +kernel
theorem dL_law_1008 : decode cL_law 1008 = .ok (.aload_n 0, 1) := by decide +kernel
theorem dL_law_1009 : decode cL_law 1009 = .ok (.iload_n 3, 1) := by decide +kernel
theorem dL_law_1010 : decode cL_law 1010 = .ok (.iconst 2, 1) := by decide +kernel
theorem dL_law_1011 : decode cL_law 1011 = .ok (.iadd, 1) := by decide +kernel
theorem dL_law_1012 : decode cL_law 1012 = .ok (.iaload, 1) := by decide +kernel
theorem dL_law_1013 : decode cL_law 1013 = .ok (.invokevirtual 113, 3) := by decide +kernel
theorem dL_law_1016 : decode cL_law 1016 = .ok (.if_icmp .eq 529, 3) := by decide +kernel
theorem dL_law_1019 : decode cL_law 1019 = .ok (.iconst 0, 1) := by decide +kernel
theorem dL_law_1020 : decode cL_law 1020 = .ok (.ireturn, 1) := by decide +kernel
theorem dL_law_1021 : decode cL_law 1021 = .ok (.aload_n 1, 1) := by decide +kernel
theorem dL_law_1022 : decode cL_law 1022 = .ok (.aload_n 0, 1) := by decide +kernel
theorem dL_law_1023 : decode cL_law 1023 = .ok (.iload_n 3, 1) := by decide +kernel
theorem dL_law_1024 : decode cL_law 1024 = .ok (.iconst 1, 1) := by decide +kernel
theorem dL_law_1025 : decode cL_law 1025 = .ok (.iadd, 1) := by decide +kernel
theorem dL_law_1026 : decode cL_law 1026 = .ok (.iaload, 1) := by decide +kernel
theorem dL_law_1027 : decode cL_law 1027 = .ok (.invokevirtual 114, 3) := by decide +kernel
theorem dL_law_1030 : decode cL_law 1030 = .ok (.aload_n 2, 1) := by decide +kernel
theorem dL_law_1031 : decode cL_law 1031 = .ok (.aload_n 0, 1) := by decide +kernel
theorem dL_law_1032 : decode cL_law 1032 = .ok (.iload_n 3, 1) := by decide +kernel
theorem dL_law_1033 : decode cL_law 1033 = .ok (.iconst 1, 1) := by decide +kernel
theorem dL_law_1034 : decode cL_law 1034 = .ok (.iadd, 1) := by decide +kernel
theorem dL_law_1035 : decode cL_law 1035 = .ok (.iaload, 1) := by decide +kernel
theorem dL_law_1036 : decode cL_law 1036 = .ok (.invokevirtual 117, 3) := by decide +kernel
theorem dL_law_1039 : decode cL_law 1039 = .ok (.if_icmp .eq 506, 3) := by decide +kernel
theorem dL_law_1042 : decode cL_law 1042 = .ok (.iconst 0, 1) := by decide +kernel
theorem dL_law_1043 : decode cL_law 1043 = .ok (.ireturn, 1) := by decide +kernel
theorem dL_law_1044 : decode cL_law 1044 = .ok (.aload_n 1, 1) := by decide +kernel
theorem dL_law_1045 : decode cL_law 1045 = .ok (.invokevirtual 118, 3) := by decide +kernel
theorem dL_law_1048 : decode cL_law 1048 = .ok (.aload_n 2, 1) := by decide +kernel
theorem dL_law_1049 : decode cL_law 1049 = .ok (.invokevirtual 121, 3) := by decide +kernel
theorem dL_law_1052 : decode cL_law 1052 = .ok (.if_icmp .eq 493, 3) := by decide +kernel
theorem dL_law_1055 : decode cL_law 1055 = .ok (.iconst 0, 1) := by decide +kernel
theorem dL_law_1056 : decode cL_law 1056 = .ok (.ireturn, 1) := by decide +kernel
theorem dL_law_1057 : decode cL_law 1057 = .ok (.aload_n 1, 1) := by decide +kernel
theorem dL_law_1058 : decode cL_law 1058 = .ok (.aload_n 0, 1) := by decide +kernel
theorem dL_law_1059 : decode cL_law 1059 = .ok (.iload_n 3, 1) := by decide +kernel
theorem dL_law_1060 : decode cL_law 1060 = .ok (.iconst 1, 1) := by decide +kernel
theorem dL_law_1061 : decode cL_law 1061 = .ok (.iadd, 1) := by decide +kernel
theorem dL_law_1062 : decode cL_law 1062 = .ok (.iaload, 1) := by decide +kernel
theorem dL_law_1063 : decode cL_law 1063 = .ok (.aload_n 0, 1) := by decide +kernel
theorem dL_law_1064 : decode cL_law 1064 = .ok (.iload_n 3, 1) := by decide +kernel
theorem dL_law_1065 : decode cL_law 1065 = .ok (.iconst 2, 1) := by decide +kernel
theorem dL_law_1066 : decode cL_law 1066 = .ok (.iadd, 1) := by decide +kernel
theorem dL_law_1067 : decode cL_law 1067 = .ok (.iaload, 1) := by decide +kernel
theorem dL_law_1068 : decode cL_law 1068 = .ok (.aload_n 0, 1) := by decide +kernel
theorem dL_law_1069 : decode cL_law 1069 = .ok (.iload_n 3, 1) := by decide +kernel
theorem dL_law_1070 : decode cL_law 1070 = .ok (.iconst 3, 1) := by decide +kernel
theorem dL_law_1071 : decode cL_law 1071 = .ok (.iadd, 1) := by decide +kernel
theorem dL_law_1072 : decode cL_law 1072 = .ok (.iaload, 1) := by decide +kernel
theorem dL_law_1073 : decode cL_law 1073 = .ok (.aload_n 0, 1) := by decide +kernel
theorem dL_law_1074 : decode cL_law 1074 = .ok (.iload_n 3, 1) := by decide +kernel
theorem dL_law_1075 : decode cL_law 1075 = .ok (.iconst 4, 1) := by decide +kernel
theorem dL_law_1076 : decode cL_law 1076 = .ok (.iadd, 1) := by decide +kernel
theorem dL_law_1077 : decode cL_law 1077 = .ok (.iaload, 1) := by decide +kernel
theorem dL_law_1078 : decode cL_law 1078 = .ok (.invokevirtual 122, 3) := by decide +kernel
theorem dL_law_1081 : decode cL_law 1081 = .ok (.aload_n 2, 1) := by decide +kernel
theorem dL_law_1082 : decode cL_law 1082 = .ok (.aload_n 0, 1) := by decide +kernel
theorem dL_law_1083 : decode cL_law 1083 = .ok (.iload_n 3, 1) := by decide +kernel
theorem dL_law_1084 : decode cL_law 1084 = .ok (.iconst 1, 1) := by decide +kernel
theorem dL_law_1085 : decode cL_law 1085 = .ok (.iadd, 1) := by decide +kernel
theorem dL_law_1086 : decode cL_law 1086 = .ok (.iaload, 1) := by decide +kernel
theorem dL_law_1087 : decode cL_law 1087 = .ok (.aload_n 0, 1) := by decide +kernel
theorem dL_law_1088 : decode cL_law 1088 = .ok (.iload_n 3, 1) := by decide +kernel
theorem dL_law_1089 : decode cL_law 1089 = .ok (.iconst 2, 1) := by decide +kernel
theorem dL_law_1090 : decode cL_law 1090 = .ok (.iadd, 1) := by decide +kernel
theorem dL_law_1091 : decode cL_law 1091 = .ok (.iaload, 1) := by decide +kernel
theorem dL_law_1092 : decode cL_law 1092 = .ok (.aload_n 0, 1) := by decide +kernel
theorem dL_law_1093 : decode cL_law 1093 = .ok (.iload_n 3, 1) := by decide +kernel
theorem dL_law_1094 : decode cL_law 1094 = .ok (.iconst 3, 1) := by decide +kernel
theorem dL_law_1095 : decode cL_law 1095 = .ok (.iadd, 1) := by decide +kernel
theorem dL_law_1096 : decode cL_law 1096 = .ok (.iaload, 1) := by decide +kernel
theorem dL_law_1097 : decode cL_law 1097 = .ok (.aload_n 0, 1) := by decide +kernel
theorem dL_law_1098 : decode cL_law 1098 = .ok (.iload_n 3, 1) := by decide +kernel
theorem dL_law_1099 : decode cL_law 1099 = .ok (.iconst 4, 1) := by decide +kernel
theorem dL_law_1100 : decode cL_law 1100 = .ok (.iadd, 1) := by decide +kernel
theorem dL_law_1101 : decode cL_law 1101 = .ok (.iaload, 1) := by decide +kernel
theorem dL_law_1102 : decode cL_law 1102 = .ok (.invokevirtual 125, 3) := by decide +kernel
theorem dL_law_1105 : decode cL_law 1105 = .ok (.if_icmp .eq 440, 3) := by decide +kernel
theorem dL_law_1108 : decode cL_law 1108 = .ok (.iconst 0, 1) := by decide +kernel
theorem dL_law_1109 : decode cL_law 1109 = .ok (.ireturn, 1) := by decide +kernel
theorem dL_law_1110 : decode cL_law 1110 = .ok (.aload_n 1, 1) := by decide +kernel
theorem dL_law_1111 : decode cL_law 1111 = .ok (.aload_n 0, 1) := by decide +kernel
theorem dL_law_1112 : decode cL_law 1112 = .ok (.iload_n 3, 1) := by decide +kernel
theorem dL_law_1113 : decode cL_law 1113 = .ok (.iconst 1, 1) := by decide +kernel
theorem dL_law_1114 : decode cL_law 1114 = .ok (.iadd, 1) := by decide +kernel
theorem dL_law_1115 : decode cL_law 1115 = .ok (.iaload, 1) := by decide +kernel
theorem dL_law_1116 : decode cL_law 1116 = .ok (.aload_n 0, 1) := by decide +kernel
theorem dL_law_1117 : decode cL_law 1117 = .ok (.iload_n 3, 1) := by decide +kernel
theorem dL_law_1118 : decode cL_law 1118 = .ok (.iconst 2, 1) := by decide +kernel
theorem dL_law_1119 : decode cL_law 1119 = .ok (.iadd, 1) := by decide +kernel
theorem dL_law_1120 : decode cL_law 1120 = .ok (.iaload, 1) := by decide +kernel
theorem dL_law_1121 : decode cL_law 1121 = .ok (.aload_n 0, 1) := by decide +kernel
theorem dL_law_1122 : decode cL_law 1122 = .ok (.iload_n 3, 1) := by decide +kernel
theorem dL_law_1123 : decode cL_law 1123 = .ok (.iconst 3, 1) := by decide +kernel
theorem dL_law_1124 : decode cL_law 1124 = .ok (.iadd, 1) := by decide +kernel
theorem dL_law_1125 : decode cL_law 1125 = .ok (.iaload, 1) := by decide +kernel
theorem dL_law_1126 : decode cL_law 1126 = .ok (.invokevirtual 126, 3) := by decide +kernel
theorem dL_law_1129 : decode cL_law 1129 = .ok (.aload_n 2, 1) := by decide +kernel
theorem dL_law_1130 : decode cL_law 1130 = .ok (.aload_n 0, 1) := by decide +kernel
theorem dL_law_1131 : decode cL_law 1131 = .ok (.iload_n 3, 1) := by decide +kernel
theorem dL_law_1132 : decode cL_law 1132 = .ok (.iconst 1, 1) := by decide +kernel
theorem dL_law_1133 : decode cL_law 1133 = .ok (.iadd, 1) := by decide +kernel
theorem dL_law_1134 : decode cL_law 1134 = .ok (.iaload, 1) := by decide +kernel
theorem dL_law_1135 : decode cL_law 1135 = .ok (.aload_n 0, 1) := by decide +kernel
theorem dL_law_1136 : decode cL_law 1136 = .ok (.iload_n 3, 1) := by decide +kernel
theorem dL_law_1137 : decode cL_law 1137 = .ok (.iconst 2, 1) := by decide +kernel
theorem dL_law_1138 : decode cL_law 1138 = .ok (.iadd, 1) := by decide +kernel
theorem dL_law_1139 : decode cL_law 1139 = .ok (.iaload, 1) := by decide +kernel
theorem dL_law_1140 : decode cL_law 1140 = .ok (.aload_n 0, 1) := by decide +kernel
theorem dL_law_1141 : decode cL_law 1141 = .ok (.iload_n 3, 1) := by decide +kernel
theorem dL_law_1142 : decode cL_law 1142 = .ok (.iconst 3, 1) := by decide +kernel
theorem dL_law_1143 : decode cL_law 1143 = .ok (.iadd, 1) := by decide +kernel
theorem dL_law_1144 : decode cL_law 1144 = .ok (.iaload, 1) := by decide +kernel
theorem dL_law_1145 : decode cL_law 1145 = .ok (.invokevirtual 129, 3) := by decide +kernel
theorem dL_law_1148 : decode cL_law 1148 = .ok (.if_icmp .eq 397, 3) := by decide +kernel
theorem dL_law_1151 : decode cL_law 1151 = .ok (.iconst 0, 1) := by decide +kernel
theorem dL_law_1152 : decode cL_law 1152 = .ok (.ireturn, 1) := by decide +kernel
theorem dL_law_1153 : decode cL_law 1153 = .ok (.aload_n 1, 1) := by decide +kernel
theorem dL_law_1154 : decode cL_law 1154 = .ok (.aload_n 0, 1) := by decide +kernel
theorem dL_law_1155 : decode cL_law 1155 = .ok (.iload_n 3, 1) := by decide +kernel
theorem dL_law_1156 : decode cL_law 1156 = .ok (.iconst 1, 1) := by decide +kernel
theorem dL_law_1157 : decode cL_law 1157 = .ok (.iadd, 1) := by decide +kernel
theorem dL_law_1158 : decode cL_law 1158 = .ok (.iaload, 1) := by decide +kernel
theorem dL_law_1159 : decode cL_law 1159 = .ok (.invokevirtual 130, 3) := by decide +kernel
theorem dL_law_1162 : decode cL_law 1162 = .ok (.aload_n 2, 1) := by decide +kernel
theorem dL_law_1163 : decode cL_law 1163 = .ok (.aload_n 0, 1) := by decide +kernel
theorem dL_law_1164 : decode cL_law 1164 = .ok (.iload_n 3, 1) := by decide +kernel
theorem dL_law_1165 : decode cL_law 1165 = .ok (.iconst 1, 1) := by decide +kernel
theorem dL_law_1166 : decode cL_law 1166 = .ok (.iadd, 1) := by decide +kernel
theorem dL_law_1167 : decode cL_law 1167 = .ok (.iaload, 1) := by decide +kernel
theorem dL_law_1168 : decode cL_law 1168 = .ok (.invokevirtual 133, 3) := by decide +kernel
theorem dL_law_1171 : decode cL_law 1171 = .ok (.if_icmp .eq 374, 3) := by decide +kernel
theorem dL_law_1174 : decode cL_law 1174 = .ok (.iconst 0, 1) := by decide +kernel
theorem dL_law_1175 : decode cL_law 1175 = .ok (.ireturn, 1) := by decide +kernel
theorem dL_law_1176 : decode cL_law 1176 = .ok (.aload_n 1, 1) := by decide +kernel
theorem dL_law_1177 : decode cL_law 1177 = .ok (.aload_n 0, 1) := by decide +kernel
theorem dL_law_1178 : decode cL_law 1178 = .ok (.iload_n 3, 1) := by decide +kernel
theorem dL_law_1179 : decode cL_law 1179 = .ok (.iconst 1, 1) := by decide +kernel
theorem dL_law_1180 : decode cL_law 1180 = .ok (.iadd, 1) := by decide +kernel
theorem dL_law_1181 : decode cL_law 1181 = .ok (.iaload, 1) := by decide +kernel
theorem dL_law_1182 : decode cL_law 1182 = .ok (.aload_n 0, 1) := by decide +kernel
theorem dL_law_1183 : decode cL_law 1183 = .ok (.iload_n 3, 1) := by decide +kernel
theorem dL_law_1184 : decode cL_law 1184 = .ok (.iconst 2, 1) := by decide +kernel
theorem dL_law_1185 : decode cL_law 1185 = .ok (.iadd, 1) := by decide +kernel
theorem dL_law_1186 : decode cL_law 1186 = .ok (.iaload, 1) := by decide +kernel
theorem dL_law_1187 : decode cL_law 1187 = .ok (.aload_n 0, 1) := by decide +kernel
theorem dL_law_1188 : decode cL_law 1188 = .ok (.iload_n 3, 1) := by decide +kernel
theorem dL_law_1189 : decode cL_law 1189 = .ok (.iconst 3, 1) := by decide +kernel
theorem dL_law_1190 : decode cL_law 1190 = .ok (.iadd, 1) := by decide +kernel
theorem dL_law_1191 : decode cL_law 1191 = .ok (.iaload, 1) := by decide +kernel
theorem dL_law_1192 : decode cL_law 1192 = .ok (.invokevirtual 134, 3) := by decide +kernel
theorem dL_law_1195 : decode cL_law 1195 = .ok (.aload_n 2, 1) := by decide +kernel
theorem dL_law_1196 : decode cL_law 1196 = .ok (.aload_n 0, 1) := by decide +kernel
theorem dL_law_1197 : decode cL_law 1197 = .ok (.iload_n 3, 1) := by decide +kernel
theorem dL_law_1198 : decode cL_law 1198 = .ok (.iconst 1, 1) := by decide +kernel
theorem dL_law_1199 : decode cL_law 1199 = .ok (.iadd, 1) := by decide +kernel
theorem dL_law_1200 : decode cL_law 1200 = .ok (.iaload, 1) := by decide +kernel
theorem dL_law_1201 : decode cL_law 1201 = .ok (.aload_n 0, 1) := by decide +kernel
theorem dL_law_1202 : decode cL_law 1202 = .ok (.iload_n 3, 1) := by decide +kernel
theorem dL_law_1203 : decode cL_law 1203 = .ok (.iconst 2, 1) := by decide +kernel
theorem dL_law_1204 : decode cL_law 1204 = .ok (.iadd, 1) := by decide +kernel
theorem dL_law_1205 : decode cL_law 1205 = .ok (.iaload, 1) := by decide +kernel
theorem dL_law_1206 : decode cL_law 1206 = .ok (.aload_n 0, 1) := by decide +kernel
theorem dL_law_1207 : decode cL_law 1207 = .ok (.iload_n 3, 1) := by decide +kernel
theorem dL_law_1208 : decode cL_law 1208 = .ok (.iconst 3, 1) := by decide +kernel
theorem dL_law_1209 : decode cL_law 1209 = .ok (.iadd, 1) := by decide +kernel
theorem dL_law_1210 : decode cL_law 1210 = .ok (.iaload, 1) := by decide +kernel
theorem dL_law_1211 : decode cL_law 1211 = .ok (.invokevirtual 137, 3) := by decide +kernel
theorem dL_law_1214 : decode cL_law 1214 = .ok (.if_icmp .eq 331, 3) := by decide +kernel
theorem dL_law_1217 : decode cL_law 1217 = .ok (.iconst 0, 1) := by decide +kernel
theorem dL_law_1218 : decode cL_law 1218 = .ok (.ireturn, 1) := by decide +kernel
theorem dL_law_1219 : decode cL_law 1219 = .ok (.aload_n 1, 1) := by decide +kernel
theorem dL_law_1220 : decode cL_law 1220 = .ok (.aload_n 0, 1) := by decide +kernel
theorem dL_law_1221 : decode cL_law 1221 = .ok (.iload_n 3, 1) := by decide +kernel
theorem dL_law_1222 : decode cL_law 1222 = .ok (.iconst 1, 1) := by decide +kernel
theorem dL_law_1223 : decode cL_law 1223 = .ok (.iadd, 1) := by decide +kernel
theorem dL_law_1224 : decode cL_law 1224 = .ok (.iaload, 1) := by decide +kernel
theorem dL_law_1225 : decode cL_law 1225 = .ok (.invokevirtual 138, 3) := by decide +kernel
theorem dL_law_1228 : decode cL_law 1228 = .ok (.aload_n 2, 1) := by decide +kernel
theorem dL_law_1229 : decode cL_law 1229 = .ok (.aload_n 0, 1) := by decide +kernel
theorem dL_law_1230 : decode cL_law 1230 = .ok (.iload_n 3, 1) := by decide +kernel
theorem dL_law_1231 : decode cL_law 1231 = .ok (.iconst 1, 1) := by decide +kernel
theorem dL_law_1232 : decode cL_law 1232 = .ok (.iadd, 1) := by decide +kernel
theorem dL_law_1233 : decode cL_law 1233 = .ok (.iaload, 1) := by decide +kernel
theorem dL_law_1234 : decode cL_law 1234 = .ok (.invokevirtual 141, 3) := by decide +kernel
theorem dL_law_1237 : decode cL_law 1237 = .ok (.if_icmp .eq 308, 3) := by decide +kernel
theorem dL_law_1240 : decode cL_law 1240 = .ok (.iconst 0, 1) := by decide +kernel
theorem dL_law_1241 : decode cL_law 1241 = .ok (.ireturn, 1) := by decide +kernel
theorem dL_law_1242 : decode cL_law 1242 = .ok (.aload_n 1, 1) := by decide +kernel
theorem dL_law_1243 : decode cL_law 1243 = .ok (.aload_n 0, 1) := by decide +kernel
theorem dL_law_1244 : decode cL_law 1244 = .ok (.iload_n 3, 1) := by decide +kernel
theorem dL_law_1245 : decode cL_law 1245 = .ok (.iconst 1, 1) := by decide +kernel
theorem dL_law_1246 : decode cL_law 1246 = .ok (.iadd, 1) := by decide +kernel
theorem dL_law_1247 : decode cL_law 1247 = .ok (.iaload, 1) := by decide +kernel
theorem dL_law_1248 : decode cL_law 1248 = .ok (.aload_n 0, 1) := by decide +kernel
theorem dL_law_1249 : decode cL_law 1249 = .ok (.iload_n 3, 1) := by decide +kernel
theorem dL_law_1250 : decode cL_law 1250 = .ok (.iconst 2, 1) := by decide +kernel
theorem dL_law_1251 : decode cL_law 1251 = .ok (.iadd, 1) := by decide +kernel
theorem dL_law_1252 : decode cL_law 1252 = .ok (.iaload, 1) := by decide +kernel
theorem dL_law_1253 : decode cL_law 1253 = .ok (.aload_n 0, 1) := by decide +kernel
theorem dL_law_1254 : decode cL_law 1254 = .ok (.iload_n 3, 1) := by decide +kernel
theorem dL_law_1255 : decode cL_law 1255 = .ok (.iconst 3, 1) := by decide +kernel
theorem dL_law_1256 : decode cL_law 1256 = .ok (.iadd, 1) := by decide +kernel
theorem dL_law_1257 : decode cL_law 1257 = .ok (.iaload, 1) := by decide +kernel
theorem dL_law_1258 : decode cL_law 1258 = .ok (.invokevirtual 142, 3) := by decide +kernel
theorem dL_law_1261 : decode cL_law 1261 = .ok (.aload_n 2, 1) := by decide +kernel
theorem dL_law_1262 : decode cL_law 1262 = .ok (.aload_n 0, 1) := by decide +kernel
theorem dL_law_1263 : decode cL_law 1263 = .ok (.iload_n 3, 1) := by decide +kernel
theorem dL_law_1264 : decode cL_law 1264 = .ok (.iconst 1, 1) := by decide +kernel
theorem dL_law_1265 : decode cL_law 1265 = .ok (.iadd, 1) := by decide +kernel
theorem dL_law_1266 : decode cL_law 1266 = .ok (.iaload, 1) := by decide +kernel
theorem dL_law_1267 : decode cL_law 1267 = .ok (.aload_n 0, 1) := by decide +kernel
theorem dL_law_1268 : decode cL_law 1268 = .ok (.iload_n 3, 1) := by decide +kernel
theorem dL_law_1269 : decode cL_law 1269 = .ok (.iconst 2, 1) := by decide +kernel
theorem dL_law_1270 : decode cL_law 1270 = .ok (.iadd, 1) := by decide +kernel
theorem dL_law_1271 : decode cL_law 1271 = .ok (.iaload, 1) := by decide +kernel
theorem dL_law_1272 : decode cL_law 1272 = .ok (.aload_n 0, 1) := by decide +kernel
theorem dL_law_1273 : decode cL_law 1273 = .ok (.iload_n 3, 1) := by decide +kernel
theorem dL_law_1274 : decode cL_law 1274 = .ok (.iconst 3, 1) := by decide +kernel
theorem dL_law_1275 : decode cL_law 1275 = .ok (.iadd, 1) := by decide +kernel
theorem dL_law_1276 : decode cL_law 1276 = .ok (.iaload, 1) := by decide +kernel
theorem dL_law_1277 : decode cL_law 1277 = .ok (.invokevirtual 145, 3) := by decide +kernel
theorem dL_law_1280 : decode cL_law 1280 = .ok (.if_icmp .eq 265, 3) := by decide +kernel
theorem dL_law_1283 : decode cL_law 1283 = .ok (.iconst 0, 1) := by decide +kernel
theorem dL_law_1284 : decode cL_law 1284 = .ok (.ireturn, 1) := by decide +kernel
theorem dL_law_1285 : decode cL_law 1285 = .ok (.aload_n 1, 1) := by decide +kernel
theorem dL_law_1286 : decode cL_law 1286 = .ok (.aload_n 0, 1) := by decide +kernel
theorem dL_law_1287 : decode cL_law 1287 = .ok (.iload_n 3, 1) := by decide +kernel
theorem dL_law_1288 : decode cL_law 1288 = .ok (.iconst 1, 1) := by decide +kernel
theorem dL_law_1289 : decode cL_law 1289 = .ok (.iadd, 1) := by decide +kernel
theorem dL_law_1290 : decode cL_law 1290 = .ok (.iaload, 1) := by decide +kernel
theorem dL_law_1291 : decode cL_law 1291 = .ok (.aload_n 0, 1) := by decide +kernel
theorem dL_law_1292 : decode cL_law 1292 = .ok (.iload_n 3, 1) := by decide +kernel
theorem dL_law_1293 : decode cL_law 1293 = .ok (.iconst 2, 1) := by decide +kernel
theorem dL_law_1294 : decode cL_law 1294 = .ok (.iadd, 1) := by decide +kernel
theorem dL_law_1295 : decode cL_law 1295 = .ok (.iaload, 1) := by decide +kernel
theorem dL_law_1296 : decode cL_law 1296 = .ok (.aload_n 0, 1) := by decide +kernel
theorem dL_law_1297 : decode cL_law 1297 = .ok (.iload_n 3, 1) := by decide +kernel
theorem dL_law_1298 : decode cL_law 1298 = .ok (.iconst 3, 1) := by decide +kernel
theorem dL_law_1299 : decode cL_law 1299 = .ok (.iadd, 1) := by decide +kernel
theorem dL_law_1300 : decode cL_law 1300 = .ok (.iaload, 1) := by decide +kernel
theorem dL_law_1301 : decode cL_law 1301 = .ok (.invokevirtual 146, 3) := by decide +kernel
theorem dL_law_1304 : decode cL_law 1304 = .ok (.aload_n 2, 1) := by decide +kernel
theorem dL_law_1305 : decode cL_law 1305 = .ok (.aload_n 0, 1) := by decide +kernel
theorem dL_law_1306 : decode cL_law 1306 = .ok (.iload_n 3, 1) := by decide +kernel
theorem dL_law_1307 : decode cL_law 1307 = .ok (.iconst 1, 1) := by decide +kernel
theorem dL_law_1308 : decode cL_law 1308 = .ok (.iadd, 1) := by decide +kernel
theorem dL_law_1309 : decode cL_law 1309 = .ok (.iaload, 1) := by decide +kernel
theorem dL_law_1310 : decode cL_law 1310 = .ok (.aload_n 0, 1) := by decide +kernel
theorem dL_law_1311 : decode cL_law 1311 = .ok (.iload_n 3, 1) := by decide +kernel
theorem dL_law_1312 : decode cL_law 1312 = .ok (.iconst 2, 1) := by decide +kernel
theorem dL_law_1313 : decode cL_law 1313 = .ok (.iadd, 1) := by decide +kernel
theorem dL_law_1314 : decode cL_law 1314 = .ok (.iaload, 1) := by decide +kernel
theorem dL_law_1315 : decode cL_law 1315 = .ok (.aload_n 0, 1) := by decide +kernel
theorem dL_law_1316 : decode cL_law 1316 = .ok (.iload_n 3, 1) := by decide +kernel
theorem dL_law_1317 : decode cL_law 1317 = .ok (.iconst 3, 1) := by decide +kernel
theorem dL_law_1318 : decode cL_law 1318 = .ok (.iadd, 1) := by decide +kernel
theorem dL_law_1319 : decode cL_law 1319 = .ok (.iaload, 1) := by decide +kernel
theorem dL_law_1320 : decode cL_law 1320 = .ok (.invokevirtual 149, 3) := by decide +kernel
theorem dL_law_1323 : decode cL_law 1323 = .ok (.if_icmp .eq 222, 3) := by decide +kernel
theorem dL_law_1326 : decode cL_law 1326 = .ok (.iconst 0, 1) := by decide +kernel
theorem dL_law_1327 : decode cL_law 1327 = .ok (.ireturn, 1) := by decide +kernel
theorem dL_law_1328 : decode cL_law 1328 = .ok (.aload_n 1, 1) := by decide +kernel
theorem dL_law_1329 : decode cL_law 1329 = .ok (.aload_n 0, 1) := by decide +kernel
theorem dL_law_1330 : decode cL_law 1330 = .ok (.iload_n 3, 1) := by decide +kernel
theorem dL_law_1331 : decode cL_law 1331 = .ok (.iconst 1, 1) := by decide +kernel
theorem dL_law_1332 : decode cL_law 1332 = .ok (.iadd, 1) := by decide +kernel
theorem dL_law_1333 : decode cL_law 1333 = .ok (.iaload, 1) := by decide +kernel
theorem dL_law_1334 : decode cL_law 1334 = .ok (.aload_n 0, 1) := by decide +kernel
theorem dL_law_1335 : decode cL_law 1335 = .ok (.iload_n 3, 1) := by decide +kernel
theorem dL_law_1336 : decode cL_law 1336 = .ok (.iconst 2, 1) := by decide +kernel
theorem dL_law_1337 : decode cL_law 1337 = .ok (.iadd, 1) := by decide +kernel
theorem dL_law_1338 : decode cL_law 1338 = .ok (.iaload, 1) := by decide +kernel
theorem dL_law_1339 : decode cL_law 1339 = .ok (.aload_n 0, 1) := by decide +kernel
theorem dL_law_1340 : decode cL_law 1340 = .ok (.iload_n 3, 1) := by decide +kernel
theorem dL_law_1341 : decode cL_law 1341 = .ok (.iconst 3, 1) := by decide +kernel
theorem dL_law_1342 : decode cL_law 1342 = .ok (.iadd, 1) := by decide +kernel
theorem dL_law_1343 : decode cL_law 1343 = .ok (.iaload, 1) := by decide +kernel
theorem dL_law_1344 : decode cL_law 1344 = .ok (.aload_n 0, 1) := by decide +kernel
theorem dL_law_1345 : decode cL_law 1345 = .ok (.iload_n 3, 1) := by decide +kernel
theorem dL_law_1346 : decode cL_law 1346 = .ok (.iconst 4, 1) := by decide +kernel
theorem dL_law_1347 : decode cL_law 1347 = .ok (.iadd, 1) := by decide +kernel
theorem dL_law_1348 : decode cL_law 1348 = .ok (.iaload, 1) := by decide +kernel
theorem dL_law_1349 : decode cL_law 1349 = .ok (.aload_n 0, 1) := by decide +kernel
theorem dL_law_1350 : decode cL_law 1350 = .ok (.iload_n 3, 1) := by decide +kernel
theorem dL_law_1351 : decode cL_law 1351 = .ok (.iconst 5, 1) := by decide +kernel
theorem dL_law_1352 : decode cL_law 1352 = .ok (.iadd, 1) := by decide +kernel
theorem dL_law_1353 : decode cL_law 1353 = .ok (.iaload, 1) := by decide +kernel
theorem dL_law_1354 : decode cL_law 1354 = .ok (.invokevirtual 150, 3) := by decide +kernel
theorem dL_law_1357 : decode cL_law 1357 = .ok (.aload_n 2, 1) := by decide +kernel
theorem dL_law_1358 : decode cL_law 1358 = .ok (.aload_n 0, 1) := by decide +kernel
theorem dL_law_1359 : decode cL_law 1359 = .ok (.iload_n 3, 1) := by decide +kernel
theorem dL_law_1360 : decode cL_law 1360 = .ok (.iconst 1, 1) := by decide +kernel
theorem dL_law_1361 : decode cL_law 1361 = .ok (.iadd, 1) := by decide +kernel
theorem dL_law_1362 : decode cL_law 1362 = .ok (.iaload, 1) := by decide +kernel
theorem dL_law_1363 : decode cL_law 1363 = .ok (.aload_n 0, 1) := by decide +kernel
theorem dL_law_1364 : decode cL_law 1364 = .ok (.iload_n 3, 1) := by decide +kernel
theorem dL_law_1365 : decode cL_law 1365 = .ok (.iconst 2, 1) := by decide +kernel
theorem dL_law_1366 : decode cL_law 1366 = .ok (.iadd, 1) := by decide +kernel
theorem dL_law_1367 : decode cL_law 1367 = .ok (.iaload, 1) := by decide +kernel
theorem dL_law_1368 : decode cL_law 1368 = .ok (.aload_n 0, 1) := by decide +kernel
theorem dL_law_1369 : decode cL_law 1369 = .ok (.iload_n 3, 1) := by decide +kernel
theorem dL_law_1370 : decode cL_law 1370 = .ok (.iconst 3, 1) := by decide +kernel
theorem dL_law_1371 : decode cL_law 1371 = .ok (.iadd, 1) := by decide +kernel
theorem dL_law_1372 : decode cL_law 1372 = .ok (.iaload, 1) := by decide +kernel
theorem dL_law_1373 : decode cL_law 1373 = .ok (.aload_n 0, 1) := by decide +kernel
theorem dL_law_1374 : decode cL_law 1374 = .ok (.iload_n 3, 1) := by decide +kernel
theorem dL_law_1375 : decode cL_law 1375 = .ok (.iconst 4, 1) := by decide +kernel
theorem dL_law_1376 : decode cL_law 1376 = .ok (.iadd, 1) := by decide +kernel
theorem dL_law_1377 : decode cL_law 1377 = .ok (.iaload, 1) := by decide +kernel
theorem dL_law_1378 : decode cL_law 1378 = .ok (.aload_n 0, 1) := by decide +kernel
theorem dL_law_1379 : decode cL_law 1379 = .ok (.iload_n 3, 1) := by decide +kernel
theorem dL_law_1380 : decode cL_law 1380 = .ok (.iconst 5, 1) := by decide +kernel
theorem dL_law_1381 : decode cL_law 1381 = .ok (.iadd, 1) := by decide +kernel
theorem dL_law_1382 : decode cL_law 1382 = .ok (.iaload, 1) := by decide +kernel
theorem dL_law_1383 : decode cL_law 1383 = .ok (.invokevirtual 153, 3) := by decide +kernel
theorem dL_law_1386 : decode cL_law 1386 = .ok (.if_icmp .eq 159, 3) := by decide +kernel
theorem dL_law_1389 : decode cL_law 1389 = .ok (.iconst 0, 1) := by decide +kernel
theorem dL_law_1390 : decode cL_law 1390 = .ok (.ireturn, 1) := by decide +kernel
theorem dL_law_1391 : decode cL_law 1391 = .ok (.aload_n 1, 1) := by decide +kernel
theorem dL_law_1392 : decode cL_law 1392 = .ok (.aload_n 0, 1) := by decide +kernel
theorem dL_law_1393 : decode cL_law 1393 = .ok (.iload_n 3, 1) := by decide +kernel
theorem dL_law_1394 : decode cL_law 1394 = .ok (.iconst 1, 1) := by decide +kernel
theorem dL_law_1395 : decode cL_law 1395 = .ok (.iadd, 1) := by decide +kernel
theorem dL_law_1396 : decode cL_law 1396 = .ok (.iaload, 1) := by decide +kernel
theorem dL_law_1397 : decode cL_law 1397 = .ok (.invokevirtual 154, 3) := by decide +kernel
theorem dL_law_1400 : decode cL_law 1400 = .ok (.aload_n 2, 1) := by decide +kernel
theorem dL_law_1401 : decode cL_law 1401 = .ok (.aload_n 0, 1) := by decide +kernel
theorem dL_law_1402 : decode cL_law 1402 = .ok (.iload_n 3, 1) := by decide +kernel
theorem dL_law_1403 : decode cL_law 1403 = .ok (.iconst 1, 1) := by decide +kernel
theorem dL_law_1404 : decode cL_law 1404 = .ok (.iadd, 1) := by decide +kernel
theorem dL_law_1405 : decode cL_law 1405 = .ok (.iaload, 1) := by decide +kernel
theorem dL_law_1406 : decode cL_law 1406 = .ok (.invokevirtual 157, 3) := by decide +kernel
theorem dL_law_1409 : decode cL_law 1409 = .ok (.if_icmp .eq 136, 3) := by decide +kernel
theorem dL_law_1412 : decode cL_law 1412 = .ok (.iconst 0, 1) := by decide +kernel
theorem dL_law_1413 : decode cL_law 1413 = .ok (.ireturn, 1) := by decide +kernel
theorem dL_law_1414 : decode cL_law 1414 = .ok (.aload_n 1, 1) := by decide +kernel
theorem dL_law_1415 : decode cL_law 1415 = .ok (.aload_n 0, 1) := by decide +kernel
theorem dL_law_1416 : decode cL_law 1416 = .ok (.iload_n 3, 1) := by decide +kernel
theorem dL_law_1417 : decode cL_law 1417 = .ok (.iconst 1, 1) := by decide +kernel
theorem dL_law_1418 : decode cL_law 1418 = .ok (.iadd, 1) := by decide +kernel
theorem dL_law_1419 : decode cL_law 1419 = .ok (.iaload, 1) := by decide +kernel
theorem dL_law_1420 : decode cL_law 1420 = .ok (.invokevirtual 158, 3) := by decide +kernel
theorem dL_law_1423 : decode cL_law 1423 = .ok (.aload_n 2, 1) := by decide +kernel
theorem dL_law_1424 : decode cL_law 1424 = .ok (.aload_n 0, 1) := by decide +kernel
theorem dL_law_1425 : decode cL_law 1425 = .ok (.iload_n 3, 1) := by decide +kernel
theorem dL_law_1426 : decode cL_law 1426 = .ok (.iconst 1, 1) := by decide +kernel
theorem dL_law_1427 : decode cL_law 1427 = .ok (.iadd, 1) := by decide +kernel
theorem dL_law_1428 : decode cL_law 1428 = .ok (.iaload, 1) := by decide +kernel
theorem dL_law_1429 : decode cL_law 1429 = .ok (.invokevirtual 161, 3) := by decide +kernel
theorem dL_law_1432 : decode cL_law 1432 = .ok (.if_icmp .eq 113, 3) := by decide +kernel
theorem dL_law_1435 : decode cL_law 1435 = .ok (.iconst 0, 1) := by decide +kernel
theorem dL_law_1436 : decode cL_law 1436 = .ok (.ireturn, 1) := by decide +kernel
theorem dL_law_1437 : decode cL_law 1437 = .ok (.aload_n 1, 1) := by decide +kernel
theorem dL_law_1438 : decode cL_law 1438 = .ok (.invokevirtual 162, 3) := by decide +kernel
theorem dL_law_1441 : decode cL_law 1441 = .ok (.aload_n 2, 1) := by decide +kernel
theorem dL_law_1442 : decode cL_law 1442 = .ok (.invokevirtual 165, 3) := by decide +kernel
theorem dL_law_1445 : decode cL_law 1445 = .ok (.if_icmp .eq 100, 3) := by decide +kernel
theorem dL_law_1448 : decode cL_law 1448 = .ok (.iconst 0, 1) := by decide +kernel
theorem dL_law_1449 : decode cL_law 1449 = .ok (.ireturn, 1) := by decide +kernel
theorem dL_law_1450 : decode cL_law 1450 = .ok (.aload_n 1, 1) := by decide +kernel
theorem dL_law_1451 : decode cL_law 1451 = .ok (.invokevirtual 166, 3) := by decide +kernel
theorem dL_law_1454 : decode cL_law 1454 = .ok (.aload_n 2, 1) := by decide +kernel
theorem dL_law_1455 : decode cL_law 1455 = .ok (.invokevirtual 169, 3) := by decide +kernel
theorem dL_law_1458 : decode cL_law 1458 = .ok (.if_icmp .eq 87, 3) := by decide +kernel
theorem dL_law_1461 : decode cL_law 1461 = .ok (.iconst 0, 1) := by decide +kernel
theorem dL_law_1462 : decode cL_law 1462 = .ok (.ireturn, 1) := by decide +kernel
theorem dL_law_1463 : decode cL_law 1463 = .ok (.aload_n 1, 1) := by decide +kernel
theorem dL_law_1464 : decode cL_law 1464 = .ok (.aload_n 0, 1) := by decide +kernel
theorem dL_law_1465 : decode cL_law 1465 = .ok (.iload_n 3, 1) := by decide +kernel
theorem dL_law_1466 : decode cL_law 1466 = .ok (.iconst 1, 1) := by decide +kernel
theorem dL_law_1467 : decode cL_law 1467 = .ok (.iadd, 1) := by decide +kernel
theorem dL_law_1468 : decode cL_law 1468 = .ok (.iaload, 1) := by decide +kernel
theorem dL_law_1469 : decode cL_law 1469 = .ok (.invokevirtual 170, 3) := by decide +kernel
theorem dL_law_1472 : decode cL_law 1472 = .ok (.aload_n 2, 1) := by decide +kernel
theorem dL_law_1473 : decode cL_law 1473 = .ok (.aload_n 0, 1) := by decide +kernel
theorem dL_law_1474 : decode cL_law 1474 = .ok (.iload_n 3, 1) := by decide +kernel
theorem dL_law_1475 : decode cL_law 1475 = .ok (.iconst 1, 1) := by decide +kernel
theorem dL_law_1476 : decode cL_law 1476 = .ok (.iadd, 1) := by decide +kernel
theorem dL_law_1477 : decode cL_law 1477 = .ok (.iaload, 1) := by decide +kernel
theorem dL_law_1478 : decode cL_law 1478 = .ok (.invokevirtual 173, 3) := by decide +kernel
theorem dL_law_1481 : decode cL_law 1481 = .ok (.if_icmp .eq 64, 3) := by decide +kernel
theorem dL_law_1484 : decode cL_law 1484 = .ok (.iconst 0, 1) := by decide +kernel
theorem dL_law_1485 : decode cL_law 1485 = .ok (.ireturn, 1) := by decide +kernel
theorem dL_law_1486 : decode cL_law 1486 = .ok (.aload_n 1, 1) := by decide +kernel
theorem dL_law_1487 : decode cL_law 1487 = .ok (.invokevirtual 174, 3) := by decide +kernel
theorem dL_law_1490 : decode cL_law 1490 = .ok (.aload_n 2, 1) := by decide +kernel
theorem dL_law_1491 : decode cL_law 1491 = .ok (.invokevirtual 177, 3) := by decide +kernel
theorem dL_law_1494 : decode cL_law 1494 = .ok (.if_icmp .eq 51, 3) := by decide +kernel
theorem dL_law_1497 : decode cL_law 1497 = .ok (.iconst 0, 1) := by decide +kernel
theorem dL_law_1498 : decode cL_law 1498 = .ok (.ireturn, 1) := by decide +kernel
theorem dL_law_1499 : decode cL_law 1499 = .ok (.aload_n 1, 1) := by decide +kernel
theorem dL_law_1500 : decode cL_law 1500 = .ok (.aload_n 0, 1) := by decide +kernel
theorem dL_law_1501 : decode cL_law 1501 = .ok (.iload_n 3, 1) := by decide +kernel
theorem dL_law_1502 : decode cL_law 1502 = .ok (.iconst 1, 1) := by decide +kernel
theorem dL_law_1503 : decode cL_law 1503 = .ok (.iadd, 1) := by decide +kernel
theorem dL_law_1504 : decode cL_law 1504 = .ok (.iaload, 1) := by decide +kernel
theorem dL_law_1505 : decode cL_law 1505 = .ok (.invokevirtual 178, 3) := by decide +kernel
theorem dL_law_1508 : decode cL_law 1508 = .ok (.aload_n 2, 1) := by decide +kernel
theorem dL_law_1509 : decode cL_law 1509 = .ok (.aload_n 0, 1) := by decide +kernel
theorem dL_law_1510 : decode cL_law 1510 = .ok (.iload_n 3, 1) := by decide +kernel
theorem dL_law_1511 : decode cL_law 1511 = .ok (.iconst 1, 1) := by decide +kernel
theorem dL_law_1512 : decode cL_law 1512 = .ok (.iadd, 1) := by decide +kernel
theorem dL_law_1513 : decode cL_law 1513 = .ok (.iaload, 1) := by decide +kernel
theorem dL_law_1514 : decode cL_law 1514 = .ok (.invokevirtual 181, 3) := by decide +kernel
theorem dL_law_1517 : decode cL_law 1517 = .ok (.if_icmp .eq 28, 3) := by decide +kernel
theorem dL_law_1520 : decode cL_law 1520 = .ok (.iconst 0, 1) := by decide +kernel
theorem dL_law_1521 : decode cL_law 1521 = .ok (.ireturn, 1) := by decide +kernel
theorem dL_law_1522 : decode cL_law 1522 = .ok (.aload_n 1, 1) := by decide +kernel
theorem dL_law_1523 : decode cL_law 1523 = .ok (.aload_n 0, 1) := by decide +kernel
theorem dL_law_1524 : decode cL_law 1524 = .ok (.iload_n 3, 1) := by decide +kernel
theorem dL_law_1525 : decode cL_law 1525 = .ok (.iconst 1, 1) := by decide +kernel
theorem dL_law_1526 : decode cL_law 1526 = .ok (.iadd, 1) := by decide +kernel
theorem dL_law_1527 : decode cL_law 1527 = .ok (.iaload, 1) := by decide +kernel
theorem dL_law_1528 : decode cL_law 1528 = .ok (.invokevirtual 182, 3) := by decide +kernel
theorem dL_law_1531 : decode cL_law 1531 = .ok (.aload_n 2, 1) := by decide +kernel
theorem dL_law_1532 : decode cL_law 1532 = .ok (.aload_n 0, 1) := by decide +kernel
theorem dL_law_1533 : decode cL_law 1533 = .ok (.iload_n 3, 1) := by decide +kernel
theorem dL_law_1534 : decode cL_law 1534 = .ok (.iconst 1, 1) := by decide +kernel
theorem dL_law_1535 : decode cL_law 1535 = .ok (.iadd, 1) := by decide +kernel
theorem dL_law_1536 : decode cL_law 1536 = .ok (.iaload, 1) := by decide +kernel
theorem dL_law_1537 : decode cL_law 1537 = .ok (.invokevirtual 185, 3) := by decide +kernel
theorem dL_law_1540 : decode cL_law 1540 = .ok (.if_icmp .eq 5, 3) := by decide +kernel
theorem dL_law_1543 : decode cL_law 1543 = .ok (.iconst 0, 1) := by decide +kernel
theorem dL_law_1544 : decode cL_law 1544 = .ok (.ireturn, 1) := by decide +kernel
theorem dL_law_1545 : decode cL_law 1545 = .ok (.iinc 3 6, 3) := by decide +kernel
theorem dL_law_1548 : decode cL_law 1548 = .ok (.goto (-1530), 3) := by decide +kernel
theorem dL_law_1551 : decode cL_law 1551 = .ok (.iconst 1, 1) := by decide +kernel
theorem dL_law_1552 : decode cL_law 1552 = .ok (.ireturn, 1) := by decide +kernel
theorem v_iX9L : Cond.initialized RX9 ∈ lw_gd := za_gd 75 (by decide +kernel) rfl
theorem v_l53 : Cond.constantLong RL 53 4294967295 ∈ lw_gd := za_gd 1439 (by decide +kernel) rfl
theorem v_c_X9_ash : Cond.code yX9_ash cX9_ash 3 (some .int) ∈ lw_gd := za_gd 387 (by decide +kernel) rfl
theorem v_l_X9_ash : Cond.methodLink RL 13 yX9_ash ∈ lw_gd := za_gd 384 (by decide +kernel) rfl
theorem v_m_X9_ash : Cond.instanceMethod yX9_ash ∈ lw_gd := za_gd 385 (by decide +kernel) rfl
theorem v_s_X9_ash : Cond.selects RX9 yX9_ash yX9_ash ∈ lw_gd := za_gd 386 (by decide +kernel) rfl
theorem vY_X9_ash : za_Y yX9_ash cX9_ash 3 (some .int) 1 := ⟨v_c_X9_ash, v_iX9L, by decide +kernel⟩
theorem vV_X9_ash : za_YV RL 13 yX9_ash := ⟨v_l_X9_ash, v_m_X9_ash, v_s_X9_ash⟩
theorem v_c_X10_ash : Cond.code yX10_ash cX10_ash 2 (some .int) ∈ lw_gd := za_gd 1098 (by decide +kernel) rfl
theorem v_l_X10_ash : Cond.methodLink RL 17 yX10_ash ∈ lw_gd := za_gd 1095 (by decide +kernel) rfl
theorem v_m_X10_ash : Cond.instanceMethod yX10_ash ∈ lw_gd := za_gd 1096 (by decide +kernel) rfl
theorem v_s_X10_ash : Cond.selects RX10 yX10_ash yX10_ash ∈ lw_gd := za_gd 1097 (by decide +kernel) rfl
theorem vY_X10_ash : za_Y yX10_ash cX10_ash 2 (some .int) 1 := ⟨v_c_X10_ash, w_85, by decide +kernel⟩
theorem vV_X10_ash : za_YV RL 17 yX10_ash := ⟨v_l_X10_ash, v_m_X10_ash, v_s_X10_ash⟩
theorem v_c_X9_ofAsh : Cond.code yX9_ofAsh cX9_ofAsh 4 (some .int) ∈ lw_gd := za_gd 406 (by decide +kernel) rfl
theorem v_l_X9_ofAsh : Cond.methodLink RL 18 yX9_ofAsh ∈ lw_gd := za_gd 403 (by decide +kernel) rfl
theorem v_m_X9_ofAsh : Cond.instanceMethod yX9_ofAsh ∈ lw_gd := za_gd 404 (by decide +kernel) rfl
theorem v_s_X9_ofAsh : Cond.selects RX9 yX9_ofAsh yX9_ofAsh ∈ lw_gd := za_gd 405 (by decide +kernel) rfl
theorem vY_X9_ofAsh : za_Y yX9_ofAsh cX9_ofAsh 4 (some .int) 2 := ⟨v_c_X9_ofAsh, v_iX9L, by decide +kernel⟩
theorem vV_X9_ofAsh : za_YV RL 18 yX9_ofAsh := ⟨v_l_X9_ofAsh, v_m_X9_ofAsh, v_s_X9_ofAsh⟩
theorem v_c_X10_ofAsh : Cond.code yX10_ofAsh cX10_ofAsh 3 (some .int) ∈ lw_gd := za_gd 1115 (by decide +kernel) rfl
theorem v_l_X10_ofAsh : Cond.methodLink RL 22 yX10_ofAsh ∈ lw_gd := za_gd 1112 (by decide +kernel) rfl
theorem v_m_X10_ofAsh : Cond.instanceMethod yX10_ofAsh ∈ lw_gd := za_gd 1113 (by decide +kernel) rfl
theorem v_s_X10_ofAsh : Cond.selects RX10 yX10_ofAsh yX10_ofAsh ∈ lw_gd := za_gd 1114 (by decide +kernel) rfl
theorem vY_X10_ofAsh : za_Y yX10_ofAsh cX10_ofAsh 3 (some .int) 2 := ⟨v_c_X10_ofAsh, w_85, by decide +kernel⟩
theorem vV_X10_ofAsh : za_YV RL 22 yX10_ofAsh := ⟨v_l_X10_ofAsh, v_m_X10_ofAsh, v_s_X10_ofAsh⟩
theorem v_c_X9_hedge : Cond.code yX9_hedge cX9_hedge 6 (some .int) ∈ lw_gd := za_gd 419 (by decide +kernel) rfl
theorem v_l_X9_hedge : Cond.methodLink RL 23 yX9_hedge ∈ lw_gd := za_gd 416 (by decide +kernel) rfl
theorem v_m_X9_hedge : Cond.instanceMethod yX9_hedge ∈ lw_gd := za_gd 417 (by decide +kernel) rfl
theorem v_s_X9_hedge : Cond.selects RX9 yX9_hedge yX9_hedge ∈ lw_gd := za_gd 418 (by decide +kernel) rfl
theorem vY_X9_hedge : za_Y yX9_hedge cX9_hedge 6 (some .int) 3 := ⟨v_c_X9_hedge, v_iX9L, by decide +kernel⟩
theorem vV_X9_hedge : za_YV RL 23 yX9_hedge := ⟨v_l_X9_hedge, v_m_X9_hedge, v_s_X9_hedge⟩
theorem v_c_X10_hedge : Cond.code yX10_hedge cX10_hedge 4 (some .int) ∈ lw_gd := za_gd 1131 (by decide +kernel) rfl
theorem v_l_X10_hedge : Cond.methodLink RL 27 yX10_hedge ∈ lw_gd := za_gd 1128 (by decide +kernel) rfl
theorem v_m_X10_hedge : Cond.instanceMethod yX10_hedge ∈ lw_gd := za_gd 1129 (by decide +kernel) rfl
theorem v_s_X10_hedge : Cond.selects RX10 yX10_hedge yX10_hedge ∈ lw_gd := za_gd 1130 (by decide +kernel) rfl
theorem vY_X10_hedge : za_Y yX10_hedge cX10_hedge 4 (some .int) 3 := ⟨v_c_X10_hedge, w_85, by decide +kernel⟩
theorem vV_X10_hedge : za_YV RL 27 yX10_hedge := ⟨v_l_X10_hedge, v_m_X10_hedge, v_s_X10_hedge⟩
theorem v_c_X9_become : Cond.code yX9_become cX9_become 5 (some .int) ∈ lw_gd := za_gd 423 (by decide +kernel) rfl
theorem v_l_X9_become : Cond.methodLink RL 28 yX9_become ∈ lw_gd := za_gd 420 (by decide +kernel) rfl
theorem v_m_X9_become : Cond.instanceMethod yX9_become ∈ lw_gd := za_gd 421 (by decide +kernel) rfl
theorem v_s_X9_become : Cond.selects RX9 yX9_become yX9_become ∈ lw_gd := za_gd 422 (by decide +kernel) rfl
theorem vY_X9_become : za_Y yX9_become cX9_become 5 (some .int) 2 := ⟨v_c_X9_become, v_iX9L, by decide +kernel⟩
theorem vV_X9_become : za_YV RL 28 yX9_become := ⟨v_l_X9_become, v_m_X9_become, v_s_X9_become⟩
theorem v_c_X10_become : Cond.code yX10_become cX10_become 3 (some .int) ∈ lw_gd := za_gd 1139 (by decide +kernel) rfl
theorem v_l_X10_become : Cond.methodLink RL 31 yX10_become ∈ lw_gd := za_gd 1136 (by decide +kernel) rfl
theorem v_m_X10_become : Cond.instanceMethod yX10_become ∈ lw_gd := za_gd 1137 (by decide +kernel) rfl
theorem v_s_X10_become : Cond.selects RX10 yX10_become yX10_become ∈ lw_gd := za_gd 1138 (by decide +kernel) rfl
theorem vY_X10_become : za_Y yX10_become cX10_become 3 (some .int) 2 := ⟨v_c_X10_become, w_85, by decide +kernel⟩
theorem vV_X10_become : za_YV RL 31 yX10_become := ⟨v_l_X10_become, v_m_X10_become, v_s_X10_become⟩
theorem v_c_X9_as : Cond.code yX9_as cX9_as 4 (some .int) ∈ lw_gd := za_gd 427 (by decide +kernel) rfl
theorem v_l_X9_as : Cond.methodLink RL 32 yX9_as ∈ lw_gd := za_gd 424 (by decide +kernel) rfl
theorem v_m_X9_as : Cond.instanceMethod yX9_as ∈ lw_gd := za_gd 425 (by decide +kernel) rfl
theorem v_s_X9_as : Cond.selects RX9 yX9_as yX9_as ∈ lw_gd := za_gd 426 (by decide +kernel) rfl
theorem vY_X9_as : za_Y yX9_as cX9_as 4 (some .int) 2 := ⟨v_c_X9_as, v_iX9L, by decide +kernel⟩
theorem vV_X9_as : za_YV RL 32 yX9_as := ⟨v_l_X9_as, v_m_X9_as, v_s_X9_as⟩
theorem v_c_X10_as : Cond.code yX10_as cX10_as 3 (some .int) ∈ lw_gd := za_gd 1143 (by decide +kernel) rfl
theorem v_l_X10_as : Cond.methodLink RL 35 yX10_as ∈ lw_gd := za_gd 1140 (by decide +kernel) rfl
theorem v_m_X10_as : Cond.instanceMethod yX10_as ∈ lw_gd := za_gd 1141 (by decide +kernel) rfl
theorem v_s_X10_as : Cond.selects RX10 yX10_as yX10_as ∈ lw_gd := za_gd 1142 (by decide +kernel) rfl
theorem vY_X10_as : za_Y yX10_as cX10_as 3 (some .int) 2 := ⟨v_c_X10_as, w_85, by decide +kernel⟩
theorem vV_X10_as : za_YV RL 35 yX10_as := ⟨v_l_X10_as, v_m_X10_as, v_s_X10_as⟩
theorem v_c_X9_potter : Cond.code yX9_potter cX9_potter 2 (some .int) ∈ lw_gd := za_gd 436 (by decide +kernel) rfl
theorem v_l_X9_potter : Cond.methodLink RL 36 yX9_potter ∈ lw_gd := za_gd 433 (by decide +kernel) rfl
theorem v_m_X9_potter : Cond.instanceMethod yX9_potter ∈ lw_gd := za_gd 434 (by decide +kernel) rfl
theorem v_s_X9_potter : Cond.selects RX9 yX9_potter yX9_potter ∈ lw_gd := za_gd 435 (by decide +kernel) rfl
theorem vY_X9_potter : za_Y yX9_potter cX9_potter 2 (some .int) 0 := ⟨v_c_X9_potter, v_iX9L, by decide +kernel⟩
theorem vV_X9_potter : za_YV RL 36 yX9_potter := ⟨v_l_X9_potter, v_m_X9_potter, v_s_X9_potter⟩
theorem v_c_X10_potter : Cond.code yX10_potter cX10_potter 3 (some .int) ∈ lw_gd := za_gd 1154 (by decide +kernel) rfl
theorem v_l_X10_potter : Cond.methodLink RL 40 yX10_potter ∈ lw_gd := za_gd 1151 (by decide +kernel) rfl
theorem v_m_X10_potter : Cond.instanceMethod yX10_potter ∈ lw_gd := za_gd 1152 (by decide +kernel) rfl
theorem v_s_X10_potter : Cond.selects RX10 yX10_potter yX10_potter ∈ lw_gd := za_gd 1153 (by decide +kernel) rfl
theorem vY_X10_potter : za_Y yX10_potter cX10_potter 3 (some .int) 0 := ⟨v_c_X10_potter, w_85, by decide +kernel⟩
theorem vV_X10_potter : za_YV RL 40 yX10_potter := ⟨v_l_X10_potter, v_m_X10_potter, v_s_X10_potter⟩
theorem v_c_X9_ofPotter : Cond.code yX9_ofPotter cX9_ofPotter 3 (some .int) ∈ lw_gd := za_gd 444 (by decide +kernel) rfl
theorem v_l_X9_ofPotter : Cond.methodLink RL 41 yX9_ofPotter ∈ lw_gd := za_gd 441 (by decide +kernel) rfl
theorem v_m_X9_ofPotter : Cond.instanceMethod yX9_ofPotter ∈ lw_gd := za_gd 442 (by decide +kernel) rfl
theorem v_s_X9_ofPotter : Cond.selects RX9 yX9_ofPotter yX9_ofPotter ∈ lw_gd := za_gd 443 (by decide +kernel) rfl
theorem vY_X9_ofPotter : za_Y yX9_ofPotter cX9_ofPotter 3 (some .int) 2 := ⟨v_c_X9_ofPotter, v_iX9L, by decide +kernel⟩
theorem vV_X9_ofPotter : za_YV RL 41 yX9_ofPotter := ⟨v_l_X9_ofPotter, v_m_X9_ofPotter, v_s_X9_ofPotter⟩
theorem v_c_X10_ofPotter : Cond.code yX10_ofPotter cX10_ofPotter 3 (some .int) ∈ lw_gd := za_gd 1161 (by decide +kernel) rfl
theorem v_l_X10_ofPotter : Cond.methodLink RL 44 yX10_ofPotter ∈ lw_gd := za_gd 1158 (by decide +kernel) rfl
theorem v_m_X10_ofPotter : Cond.instanceMethod yX10_ofPotter ∈ lw_gd := za_gd 1159 (by decide +kernel) rfl
theorem v_s_X10_ofPotter : Cond.selects RX10 yX10_ofPotter yX10_ofPotter ∈ lw_gd := za_gd 1160 (by decide +kernel) rfl
theorem vY_X10_ofPotter : za_Y yX10_ofPotter cX10_ofPotter 3 (some .int) 2 := ⟨v_c_X10_ofPotter, w_85, by decide +kernel⟩
theorem vV_X10_ofPotter : za_YV RL 44 yX10_ofPotter := ⟨v_l_X10_ofPotter, v_m_X10_ofPotter, v_s_X10_ofPotter⟩
theorem v_c_X9_store : Cond.code yX9_store cX9_store 6 (some .int) ∈ lw_gd := za_gd 460 (by decide +kernel) rfl
theorem v_l_X9_store : Cond.methodLink RL 45 yX9_store ∈ lw_gd := za_gd 457 (by decide +kernel) rfl
theorem v_m_X9_store : Cond.instanceMethod yX9_store ∈ lw_gd := za_gd 458 (by decide +kernel) rfl
theorem v_s_X9_store : Cond.selects RX9 yX9_store yX9_store ∈ lw_gd := za_gd 459 (by decide +kernel) rfl
theorem vY_X9_store : za_Y yX9_store cX9_store 6 (some .int) 3 := ⟨v_c_X9_store, v_iX9L, by decide +kernel⟩
theorem vV_X9_store : za_YV RL 45 yX9_store := ⟨v_l_X9_store, v_m_X9_store, v_s_X9_store⟩
theorem v_c_X10_store : Cond.code yX10_store cX10_store 4 (some .int) ∈ lw_gd := za_gd 1180 (by decide +kernel) rfl
theorem v_l_X10_store : Cond.methodLink RL 48 yX10_store ∈ lw_gd := za_gd 1177 (by decide +kernel) rfl
theorem v_m_X10_store : Cond.instanceMethod yX10_store ∈ lw_gd := za_gd 1178 (by decide +kernel) rfl
theorem v_s_X10_store : Cond.selects RX10 yX10_store yX10_store ∈ lw_gd := za_gd 1179 (by decide +kernel) rfl
theorem vY_X10_store : za_Y yX10_store cX10_store 4 (some .int) 3 := ⟨v_c_X10_store, w_85, by decide +kernel⟩
theorem vV_X10_store : za_YV RL 48 yX10_store := ⟨v_l_X10_store, v_m_X10_store, v_s_X10_store⟩
theorem v_c_X9_stored : Cond.code yX9_stored cX9_stored 3 (some .int) ∈ lw_gd := za_gd 464 (by decide +kernel) rfl
theorem v_l_X9_stored : Cond.methodLink RL 49 yX9_stored ∈ lw_gd := za_gd 461 (by decide +kernel) rfl
theorem v_m_X9_stored : Cond.instanceMethod yX9_stored ∈ lw_gd := za_gd 462 (by decide +kernel) rfl
theorem v_s_X9_stored : Cond.selects RX9 yX9_stored yX9_stored ∈ lw_gd := za_gd 463 (by decide +kernel) rfl
theorem vY_X9_stored : za_Y yX9_stored cX9_stored 3 (some .int) 2 := ⟨v_c_X9_stored, v_iX9L, by decide +kernel⟩
theorem vV_X9_stored : za_YV RL 49 yX9_stored := ⟨v_l_X9_stored, v_m_X9_stored, v_s_X9_stored⟩
theorem v_c_X10_stored : Cond.code yX10_stored cX10_stored 3 (some .int) ∈ lw_gd := za_gd 1184 (by decide +kernel) rfl
theorem v_l_X10_stored : Cond.methodLink RL 52 yX10_stored ∈ lw_gd := za_gd 1181 (by decide +kernel) rfl
theorem v_m_X10_stored : Cond.instanceMethod yX10_stored ∈ lw_gd := za_gd 1182 (by decide +kernel) rfl
theorem v_s_X10_stored : Cond.selects RX10 yX10_stored yX10_stored ∈ lw_gd := za_gd 1183 (by decide +kernel) rfl
theorem vY_X10_stored : za_Y yX10_stored cX10_stored 3 (some .int) 2 := ⟨v_c_X10_stored, w_85, by decide +kernel⟩
theorem vV_X10_stored : za_YV RL 52 yX10_stored := ⟨v_l_X10_stored, v_m_X10_stored, v_s_X10_stored⟩
theorem v_c_X9_feed : Cond.code yX9_feed cX9_feed 5 (some .int) ∈ lw_gd := za_gd 468 (by decide +kernel) rfl
theorem v_l_X9_feed : Cond.methodLink RL 55 yX9_feed ∈ lw_gd := za_gd 465 (by decide +kernel) rfl
theorem v_m_X9_feed : Cond.instanceMethod yX9_feed ∈ lw_gd := za_gd 466 (by decide +kernel) rfl
theorem v_s_X9_feed : Cond.selects RX9 yX9_feed yX9_feed ∈ lw_gd := za_gd 467 (by decide +kernel) rfl
theorem vY_X9_feed : za_Y yX9_feed cX9_feed 5 (some .int) 2 := ⟨v_c_X9_feed, v_iX9L, by decide +kernel⟩
theorem vV_X9_feed : za_YV RL 55 yX9_feed := ⟨v_l_X9_feed, v_m_X9_feed, v_s_X9_feed⟩
theorem v_c_X10_feed : Cond.code yX10_feed cX10_feed 5 (some .int) ∈ lw_gd := za_gd 965 (by decide +kernel) rfl
theorem v_l_X10_feed : Cond.methodLink RL 59 yX10_feed ∈ lw_gd := za_gd 962 (by decide +kernel) rfl
theorem v_m_X10_feed : Cond.instanceMethod yX10_feed ∈ lw_gd := za_gd 963 (by decide +kernel) rfl
theorem v_s_X10_feed : Cond.selects RX10 yX10_feed yX10_feed ∈ lw_gd := za_gd 964 (by decide +kernel) rfl
theorem vY_X10_feed : za_Y yX10_feed cX10_feed 5 (some .int) 2 := ⟨v_c_X10_feed, w_85, by decide +kernel⟩
theorem vV_X10_feed : za_YV RL 59 yX10_feed := ⟨v_l_X10_feed, v_m_X10_feed, v_s_X10_feed⟩
theorem v_c_X9_text : Cond.code yX9_text cX9_text 3 (some .int) ∈ lw_gd := za_gd 472 (by decide +kernel) rfl
theorem v_l_X9_text : Cond.methodLink RL 60 yX9_text ∈ lw_gd := za_gd 469 (by decide +kernel) rfl
theorem v_m_X9_text : Cond.instanceMethod yX9_text ∈ lw_gd := za_gd 470 (by decide +kernel) rfl
theorem v_s_X9_text : Cond.selects RX9 yX9_text yX9_text ∈ lw_gd := za_gd 471 (by decide +kernel) rfl
theorem vY_X9_text : za_Y yX9_text cX9_text 3 (some .int) 1 := ⟨v_c_X9_text, v_iX9L, by decide +kernel⟩
theorem vV_X9_text : za_YV RL 60 yX9_text := ⟨v_l_X9_text, v_m_X9_text, v_s_X9_text⟩
theorem v_c_X10_text : Cond.code yX10_text cX10_text 3 (some .int) ∈ lw_gd := za_gd 980 (by decide +kernel) rfl
theorem v_l_X10_text : Cond.methodLink RL 63 yX10_text ∈ lw_gd := za_gd 977 (by decide +kernel) rfl
theorem v_m_X10_text : Cond.instanceMethod yX10_text ∈ lw_gd := za_gd 978 (by decide +kernel) rfl
theorem v_s_X10_text : Cond.selects RX10 yX10_text yX10_text ∈ lw_gd := za_gd 979 (by decide +kernel) rfl
theorem vY_X10_text : za_Y yX10_text cX10_text 3 (some .int) 1 := ⟨v_c_X10_text, w_85, by decide +kernel⟩
theorem vV_X10_text : za_YV RL 63 yX10_text := ⟨v_l_X10_text, v_m_X10_text, v_s_X10_text⟩
theorem v_c_X9_law : Cond.code yX9_law cX9_law 5 (some .int) ∈ lw_gd := za_gd 528 (by decide +kernel) rfl
theorem v_l_X9_law : Cond.methodLink RL 64 yX9_law ∈ lw_gd := za_gd 525 (by decide +kernel) rfl
theorem v_m_X9_law : Cond.instanceMethod yX9_law ∈ lw_gd := za_gd 526 (by decide +kernel) rfl
theorem v_s_X9_law : Cond.selects RX9 yX9_law yX9_law ∈ lw_gd := za_gd 527 (by decide +kernel) rfl
theorem vY_X9_law : za_Y yX9_law cX9_law 5 (some .int) 4 := ⟨v_c_X9_law, v_iX9L, by decide +kernel⟩
theorem vV_X9_law : za_YV RL 64 yX9_law := ⟨v_l_X9_law, v_m_X9_law, v_s_X9_law⟩
theorem v_c_X10_law : Cond.code yX10_law cX10_law 5 (some .int) ∈ lw_gd := za_gd 1072 (by decide +kernel) rfl
theorem v_l_X10_law : Cond.methodLink RL 68 yX10_law ∈ lw_gd := za_gd 1069 (by decide +kernel) rfl
theorem v_m_X10_law : Cond.instanceMethod yX10_law ∈ lw_gd := za_gd 1070 (by decide +kernel) rfl
theorem v_s_X10_law : Cond.selects RX10 yX10_law yX10_law ∈ lw_gd := za_gd 1071 (by decide +kernel) rfl
theorem vY_X10_law : za_Y yX10_law cX10_law 5 (some .int) 4 := ⟨v_c_X10_law, w_85, by decide +kernel⟩
theorem vV_X10_law : za_YV RL 68 yX10_law := ⟨v_l_X10_law, v_m_X10_law, v_s_X10_law⟩
theorem v_c_X9_lend : Cond.code yX9_lend cX9_lend 8 (some .int) ∈ lw_gd := za_gd 547 (by decide +kernel) rfl
theorem v_l_X9_lend : Cond.methodLink RL 69 yX9_lend ∈ lw_gd := za_gd 544 (by decide +kernel) rfl
theorem v_m_X9_lend : Cond.instanceMethod yX9_lend ∈ lw_gd := za_gd 545 (by decide +kernel) rfl
theorem v_s_X9_lend : Cond.selects RX9 yX9_lend yX9_lend ∈ lw_gd := za_gd 546 (by decide +kernel) rfl
theorem vY_X9_lend : za_Y yX9_lend cX9_lend 8 (some .int) 5 := ⟨v_c_X9_lend, v_iX9L, by decide +kernel⟩
theorem vV_X9_lend : za_YV RL 69 yX9_lend := ⟨v_l_X9_lend, v_m_X9_lend, v_s_X9_lend⟩
theorem v_c_X10_lend : Cond.code yX10_lend cX10_lend 6 (some .int) ∈ lw_gd := za_gd 1232 (by decide +kernel) rfl
theorem v_l_X10_lend : Cond.methodLink RL 73 yX10_lend ∈ lw_gd := za_gd 1229 (by decide +kernel) rfl
theorem v_m_X10_lend : Cond.instanceMethod yX10_lend ∈ lw_gd := za_gd 1230 (by decide +kernel) rfl
theorem v_s_X10_lend : Cond.selects RX10 yX10_lend yX10_lend ∈ lw_gd := za_gd 1231 (by decide +kernel) rfl
theorem vY_X10_lend : za_Y yX10_lend cX10_lend 6 (some .int) 5 := ⟨v_c_X10_lend, w_85, by decide +kernel⟩
theorem vV_X10_lend : za_YV RL 73 yX10_lend := ⟨v_l_X10_lend, v_m_X10_lend, v_s_X10_lend⟩
theorem v_c_X9_ofLoan : Cond.code yX9_ofLoan cX9_ofLoan 4 (some .int) ∈ lw_gd := za_gd 564 (by decide +kernel) rfl
theorem v_l_X9_ofLoan : Cond.methodLink RL 74 yX9_ofLoan ∈ lw_gd := za_gd 561 (by decide +kernel) rfl
theorem v_m_X9_ofLoan : Cond.instanceMethod yX9_ofLoan ∈ lw_gd := za_gd 562 (by decide +kernel) rfl
theorem v_s_X9_ofLoan : Cond.selects RX9 yX9_ofLoan yX9_ofLoan ∈ lw_gd := za_gd 563 (by decide +kernel) rfl
theorem vY_X9_ofLoan : za_Y yX9_ofLoan cX9_ofLoan 4 (some .int) 2 := ⟨v_c_X9_ofLoan, v_iX9L, by decide +kernel⟩
theorem vV_X9_ofLoan : za_YV RL 74 yX9_ofLoan := ⟨v_l_X9_ofLoan, v_m_X9_ofLoan, v_s_X9_ofLoan⟩
theorem v_c_X10_ofLoan : Cond.code yX10_ofLoan cX10_ofLoan 3 (some .int) ∈ lw_gd := za_gd 1244 (by decide +kernel) rfl
theorem v_l_X10_ofLoan : Cond.methodLink RL 77 yX10_ofLoan ∈ lw_gd := za_gd 1241 (by decide +kernel) rfl
theorem v_m_X10_ofLoan : Cond.instanceMethod yX10_ofLoan ∈ lw_gd := za_gd 1242 (by decide +kernel) rfl
theorem v_s_X10_ofLoan : Cond.selects RX10 yX10_ofLoan yX10_ofLoan ∈ lw_gd := za_gd 1243 (by decide +kernel) rfl
theorem vY_X10_ofLoan : za_Y yX10_ofLoan cX10_ofLoan 3 (some .int) 2 := ⟨v_c_X10_ofLoan, w_85, by decide +kernel⟩
theorem vV_X10_ofLoan : za_YV RL 77 yX10_ofLoan := ⟨v_l_X10_ofLoan, v_m_X10_ofLoan, v_s_X10_ofLoan⟩
theorem v_c_X9_back : Cond.code yX9_back cX9_back 3 (some .int) ∈ lw_gd := za_gd 572 (by decide +kernel) rfl
theorem v_l_X9_back : Cond.methodLink RL 78 yX9_back ∈ lw_gd := za_gd 569 (by decide +kernel) rfl
theorem v_m_X9_back : Cond.instanceMethod yX9_back ∈ lw_gd := za_gd 570 (by decide +kernel) rfl
theorem v_s_X9_back : Cond.selects RX9 yX9_back yX9_back ∈ lw_gd := za_gd 571 (by decide +kernel) rfl
theorem vY_X9_back : za_Y yX9_back cX9_back 3 (some .int) 1 := ⟨v_c_X9_back, v_iX9L, by decide +kernel⟩
theorem vV_X9_back : za_YV RL 78 yX9_back := ⟨v_l_X9_back, v_m_X9_back, v_s_X9_back⟩
theorem v_c_X10_back : Cond.code yX10_back cX10_back 2 (some .int) ∈ lw_gd := za_gd 1252 (by decide +kernel) rfl
theorem v_l_X10_back : Cond.methodLink RL 81 yX10_back ∈ lw_gd := za_gd 1249 (by decide +kernel) rfl
theorem v_m_X10_back : Cond.instanceMethod yX10_back ∈ lw_gd := za_gd 1250 (by decide +kernel) rfl
theorem v_s_X10_back : Cond.selects RX10 yX10_back yX10_back ∈ lw_gd := za_gd 1251 (by decide +kernel) rfl
theorem vY_X10_back : za_Y yX10_back cX10_back 2 (some .int) 1 := ⟨v_c_X10_back, w_85, by decide +kernel⟩
theorem vV_X10_back : za_YV RL 81 yX10_back := ⟨v_l_X10_back, v_m_X10_back, v_s_X10_back⟩
theorem v_c_X9_fire : Cond.code yX9_fire cX9_fire 7 (some .int) ∈ lw_gd := za_gd 589 (by decide +kernel) rfl
theorem v_l_X9_fire : Cond.methodLink RL 82 yX9_fire ∈ lw_gd := za_gd 586 (by decide +kernel) rfl
theorem v_m_X9_fire : Cond.instanceMethod yX9_fire ∈ lw_gd := za_gd 587 (by decide +kernel) rfl
theorem v_s_X9_fire : Cond.selects RX9 yX9_fire yX9_fire ∈ lw_gd := za_gd 588 (by decide +kernel) rfl
theorem vY_X9_fire : za_Y yX9_fire cX9_fire 7 (some .int) 3 := ⟨v_c_X9_fire, v_iX9L, by decide +kernel⟩
theorem vV_X9_fire : za_YV RL 82 yX9_fire := ⟨v_l_X9_fire, v_m_X9_fire, v_s_X9_fire⟩
theorem v_c_X10_fire : Cond.code yX10_fire cX10_fire 4 (some .int) ∈ lw_gd := za_gd 1218 (by decide +kernel) rfl
theorem v_l_X10_fire : Cond.methodLink RL 85 yX10_fire ∈ lw_gd := za_gd 1215 (by decide +kernel) rfl
theorem v_m_X10_fire : Cond.instanceMethod yX10_fire ∈ lw_gd := za_gd 1216 (by decide +kernel) rfl
theorem v_s_X10_fire : Cond.selects RX10 yX10_fire yX10_fire ∈ lw_gd := za_gd 1217 (by decide +kernel) rfl
theorem vY_X10_fire : za_Y yX10_fire cX10_fire 4 (some .int) 3 := ⟨v_c_X10_fire, w_85, by decide +kernel⟩
theorem vV_X10_fire : za_YV RL 85 yX10_fire := ⟨v_l_X10_fire, v_m_X10_fire, v_s_X10_fire⟩
theorem v_c_X9_days : Cond.code yX9_days cX9_days 2 (some .int) ∈ lw_gd := za_gd 626 (by decide +kernel) rfl
theorem v_l_X9_days : Cond.methodLink RL 86 yX9_days ∈ lw_gd := za_gd 623 (by decide +kernel) rfl
theorem v_m_X9_days : Cond.instanceMethod yX9_days ∈ lw_gd := za_gd 624 (by decide +kernel) rfl
theorem v_s_X9_days : Cond.selects RX9 yX9_days yX9_days ∈ lw_gd := za_gd 625 (by decide +kernel) rfl
theorem vY_X9_days : za_Y yX9_days cX9_days 2 (some .int) 1 := ⟨v_c_X9_days, v_iX9L, by decide +kernel⟩
theorem vV_X9_days : za_YV RL 86 yX9_days := ⟨v_l_X9_days, v_m_X9_days, v_s_X9_days⟩
theorem v_c_X10_days : Cond.code yX10_days cX10_days 2 (some .int) ∈ lw_gd := za_gd 1268 (by decide +kernel) rfl
theorem v_l_X10_days : Cond.methodLink RL 89 yX10_days ∈ lw_gd := za_gd 1265 (by decide +kernel) rfl
theorem v_m_X10_days : Cond.instanceMethod yX10_days ∈ lw_gd := za_gd 1266 (by decide +kernel) rfl
theorem v_s_X10_days : Cond.selects RX10 yX10_days yX10_days ∈ lw_gd := za_gd 1267 (by decide +kernel) rfl
theorem vY_X10_days : za_Y yX10_days cX10_days 2 (some .int) 1 := ⟨v_c_X10_days, w_85, by decide +kernel⟩
theorem vV_X10_days : za_YV RL 89 yX10_days := ⟨v_l_X10_days, v_m_X10_days, v_s_X10_days⟩
theorem v_c_X9_loose : Cond.code yX9_loose cX9_loose 3 (some .int) ∈ lw_gd := za_gd 651 (by decide +kernel) rfl
theorem v_l_X9_loose : Cond.methodLink RL 90 yX9_loose ∈ lw_gd := za_gd 648 (by decide +kernel) rfl
theorem v_m_X9_loose : Cond.instanceMethod yX9_loose ∈ lw_gd := za_gd 649 (by decide +kernel) rfl
theorem v_s_X9_loose : Cond.selects RX9 yX9_loose yX9_loose ∈ lw_gd := za_gd 650 (by decide +kernel) rfl
theorem vY_X9_loose : za_Y yX9_loose cX9_loose 3 (some .int) 1 := ⟨v_c_X9_loose, v_iX9L, by decide +kernel⟩
theorem vV_X9_loose : za_YV RL 90 yX9_loose := ⟨v_l_X9_loose, v_m_X9_loose, v_s_X9_loose⟩
theorem v_c_X10_loose : Cond.code yX10_loose cX10_loose 4 (some .int) ∈ lw_gd := za_gd 1284 (by decide +kernel) rfl
theorem v_l_X10_loose : Cond.methodLink RL 93 yX10_loose ∈ lw_gd := za_gd 1281 (by decide +kernel) rfl
theorem v_m_X10_loose : Cond.instanceMethod yX10_loose ∈ lw_gd := za_gd 1282 (by decide +kernel) rfl
theorem v_s_X10_loose : Cond.selects RX10 yX10_loose yX10_loose ∈ lw_gd := za_gd 1283 (by decide +kernel) rfl
theorem vY_X10_loose : za_Y yX10_loose cX10_loose 4 (some .int) 1 := ⟨v_c_X10_loose, w_85, by decide +kernel⟩
theorem vV_X10_loose : za_YV RL 93 yX10_loose := ⟨v_l_X10_loose, v_m_X10_loose, v_s_X10_loose⟩
theorem v_c_X9_colour : Cond.code yX9_colour cX9_colour 4 (some .int) ∈ lw_gd := za_gd 664 (by decide +kernel) rfl
theorem v_l_X9_colour : Cond.methodLink RL 94 yX9_colour ∈ lw_gd := za_gd 661 (by decide +kernel) rfl
theorem v_m_X9_colour : Cond.instanceMethod yX9_colour ∈ lw_gd := za_gd 662 (by decide +kernel) rfl
theorem v_s_X9_colour : Cond.selects RX9 yX9_colour yX9_colour ∈ lw_gd := za_gd 663 (by decide +kernel) rfl
theorem vY_X9_colour : za_Y yX9_colour cX9_colour 4 (some .int) 2 := ⟨v_c_X9_colour, v_iX9L, by decide +kernel⟩
theorem vV_X9_colour : za_YV RL 94 yX9_colour := ⟨v_l_X9_colour, v_m_X9_colour, v_s_X9_colour⟩
theorem v_c_X10_colour : Cond.code yX10_colour cX10_colour 3 (some .int) ∈ lw_gd := za_gd 1188 (by decide +kernel) rfl
theorem v_l_X10_colour : Cond.methodLink RL 97 yX10_colour ∈ lw_gd := za_gd 1185 (by decide +kernel) rfl
theorem v_m_X10_colour : Cond.instanceMethod yX10_colour ∈ lw_gd := za_gd 1186 (by decide +kernel) rfl
theorem v_s_X10_colour : Cond.selects RX10 yX10_colour yX10_colour ∈ lw_gd := za_gd 1187 (by decide +kernel) rfl
theorem vY_X10_colour : za_Y yX10_colour cX10_colour 3 (some .int) 2 := ⟨v_c_X10_colour, w_85, by decide +kernel⟩
theorem vV_X10_colour : za_YV RL 97 yX10_colour := ⟨v_l_X10_colour, v_m_X10_colour, v_s_X10_colour⟩
theorem v_c_X9_then : Cond.code yX9_then cX9_then 5 (some .int) ∈ lw_gd := za_gd 668 (by decide +kernel) rfl
theorem v_l_X9_then : Cond.methodLink RL 98 yX9_then ∈ lw_gd := za_gd 665 (by decide +kernel) rfl
theorem v_m_X9_then : Cond.instanceMethod yX9_then ∈ lw_gd := za_gd 666 (by decide +kernel) rfl
theorem v_s_X9_then : Cond.selects RX9 yX9_then yX9_then ∈ lw_gd := za_gd 667 (by decide +kernel) rfl
theorem vY_X9_then : za_Y yX9_then cX9_then 5 (some .int) 3 := ⟨v_c_X9_then, v_iX9L, by decide +kernel⟩
theorem vV_X9_then : za_YV RL 98 yX9_then := ⟨v_l_X9_then, v_m_X9_then, v_s_X9_then⟩
theorem v_c_X10_then : Cond.code yX10_then cX10_then 4 (some .int) ∈ lw_gd := za_gd 1293 (by decide +kernel) rfl
theorem v_l_X10_then : Cond.methodLink RL 101 yX10_then ∈ lw_gd := za_gd 1290 (by decide +kernel) rfl
theorem v_m_X10_then : Cond.instanceMethod yX10_then ∈ lw_gd := za_gd 1291 (by decide +kernel) rfl
theorem v_s_X10_then : Cond.selects RX10 yX10_then yX10_then ∈ lw_gd := za_gd 1292 (by decide +kernel) rfl
theorem vY_X10_then : za_Y yX10_then cX10_then 4 (some .int) 3 := ⟨v_c_X10_then, w_85, by decide +kernel⟩
theorem vV_X10_then : za_YV RL 101 yX10_then := ⟨v_l_X10_then, v_m_X10_then, v_s_X10_then⟩
theorem v_c_X9_breaks : Cond.code yX9_breaks cX9_breaks 3 (some .int) ∈ lw_gd := za_gd 689 (by decide +kernel) rfl
theorem v_l_X9_breaks : Cond.methodLink RL 102 yX9_breaks ∈ lw_gd := za_gd 686 (by decide +kernel) rfl
theorem v_m_X9_breaks : Cond.instanceMethod yX9_breaks ∈ lw_gd := za_gd 687 (by decide +kernel) rfl
theorem v_s_X9_breaks : Cond.selects RX9 yX9_breaks yX9_breaks ∈ lw_gd := za_gd 688 (by decide +kernel) rfl
theorem vY_X9_breaks : za_Y yX9_breaks cX9_breaks 3 (some .int) 1 := ⟨v_c_X9_breaks, v_iX9L, by decide +kernel⟩
theorem vV_X9_breaks : za_YV RL 102 yX9_breaks := ⟨v_l_X9_breaks, v_m_X9_breaks, v_s_X9_breaks⟩
theorem v_c_X10_breaks : Cond.code yX10_breaks cX10_breaks 5 (some .int) ∈ lw_gd := za_gd 1304 (by decide +kernel) rfl
theorem v_l_X10_breaks : Cond.methodLink RL 105 yX10_breaks ∈ lw_gd := za_gd 1301 (by decide +kernel) rfl
theorem v_m_X10_breaks : Cond.instanceMethod yX10_breaks ∈ lw_gd := za_gd 1302 (by decide +kernel) rfl
theorem v_s_X10_breaks : Cond.selects RX10 yX10_breaks yX10_breaks ∈ lw_gd := za_gd 1303 (by decide +kernel) rfl
theorem vY_X10_breaks : za_Y yX10_breaks cX10_breaks 5 (some .int) 1 := ⟨v_c_X10_breaks, w_85, by decide +kernel⟩
theorem vV_X10_breaks : za_YV RL 105 yX10_breaks := ⟨v_l_X10_breaks, v_m_X10_breaks, v_s_X10_breaks⟩
theorem v_c_X9_recipe : Cond.code yX9_recipe cX9_recipe 5 (some .int) ∈ lw_gd := za_gd 693 (by decide +kernel) rfl
theorem v_l_X9_recipe : Cond.methodLink RL 106 yX9_recipe ∈ lw_gd := za_gd 690 (by decide +kernel) rfl
theorem v_m_X9_recipe : Cond.instanceMethod yX9_recipe ∈ lw_gd := za_gd 691 (by decide +kernel) rfl
theorem v_s_X9_recipe : Cond.selects RX9 yX9_recipe yX9_recipe ∈ lw_gd := za_gd 692 (by decide +kernel) rfl
theorem vY_X9_recipe : za_Y yX9_recipe cX9_recipe 5 (some .int) 3 := ⟨v_c_X9_recipe, v_iX9L, by decide +kernel⟩
theorem vV_X9_recipe : za_YV RL 106 yX9_recipe := ⟨v_l_X9_recipe, v_m_X9_recipe, v_s_X9_recipe⟩
theorem v_c_X10_recipe : Cond.code yX10_recipe cX10_recipe 8 (some .int) ∈ lw_gd := za_gd 1308 (by decide +kernel) rfl
theorem v_l_X10_recipe : Cond.methodLink RL 109 yX10_recipe ∈ lw_gd := za_gd 1305 (by decide +kernel) rfl
theorem v_m_X10_recipe : Cond.instanceMethod yX10_recipe ∈ lw_gd := za_gd 1306 (by decide +kernel) rfl
theorem v_s_X10_recipe : Cond.selects RX10 yX10_recipe yX10_recipe ∈ lw_gd := za_gd 1307 (by decide +kernel) rfl
theorem vY_X10_recipe : za_Y yX10_recipe cX10_recipe 8 (some .int) 3 := ⟨v_c_X10_recipe, w_85, by decide +kernel⟩
theorem vV_X10_recipe : za_YV RL 109 yX10_recipe := ⟨v_l_X10_recipe, v_m_X10_recipe, v_s_X10_recipe⟩
theorem v_c_X9_heats : Cond.code yX9_heats cX9_heats 3 (some .int) ∈ lw_gd := za_gd 723 (by decide +kernel) rfl
theorem v_l_X9_heats : Cond.methodLink RL 110 yX9_heats ∈ lw_gd := za_gd 720 (by decide +kernel) rfl
theorem v_m_X9_heats : Cond.instanceMethod yX9_heats ∈ lw_gd := za_gd 721 (by decide +kernel) rfl
theorem v_s_X9_heats : Cond.selects RX9 yX9_heats yX9_heats ∈ lw_gd := za_gd 722 (by decide +kernel) rfl
theorem vY_X9_heats : za_Y yX9_heats cX9_heats 3 (some .int) 2 := ⟨v_c_X9_heats, v_iX9L, by decide +kernel⟩
theorem vV_X9_heats : za_YV RL 110 yX9_heats := ⟨v_l_X9_heats, v_m_X9_heats, v_s_X9_heats⟩
theorem v_c_X10_heats : Cond.code yX10_heats cX10_heats 3 (some .int) ∈ lw_gd := za_gd 1319 (by decide +kernel) rfl
theorem v_l_X10_heats : Cond.methodLink RL 113 yX10_heats ∈ lw_gd := za_gd 1316 (by decide +kernel) rfl
theorem v_m_X10_heats : Cond.instanceMethod yX10_heats ∈ lw_gd := za_gd 1317 (by decide +kernel) rfl
theorem v_s_X10_heats : Cond.selects RX10 yX10_heats yX10_heats ∈ lw_gd := za_gd 1318 (by decide +kernel) rfl
theorem vY_X10_heats : za_Y yX10_heats cX10_heats 3 (some .int) 2 := ⟨v_c_X10_heats, w_85, by decide +kernel⟩
theorem vV_X10_heats : za_YV RL 113 yX10_heats := ⟨v_l_X10_heats, v_m_X10_heats, v_s_X10_heats⟩
theorem v_c_X9_burnt : Cond.code yX9_burnt cX9_burnt 4 (some .int) ∈ lw_gd := za_gd 731 (by decide +kernel) rfl
theorem v_l_X9_burnt : Cond.methodLink RL 114 yX9_burnt ∈ lw_gd := za_gd 728 (by decide +kernel) rfl
theorem v_m_X9_burnt : Cond.instanceMethod yX9_burnt ∈ lw_gd := za_gd 729 (by decide +kernel) rfl
theorem v_s_X9_burnt : Cond.selects RX9 yX9_burnt yX9_burnt ∈ lw_gd := za_gd 730 (by decide +kernel) rfl
theorem vY_X9_burnt : za_Y yX9_burnt cX9_burnt 4 (some .int) 1 := ⟨v_c_X9_burnt, v_iX9L, by decide +kernel⟩
theorem vV_X9_burnt : za_YV RL 114 yX9_burnt := ⟨v_l_X9_burnt, v_m_X9_burnt, v_s_X9_burnt⟩
theorem v_c_X10_burnt : Cond.code yX10_burnt cX10_burnt 7 (some .int) ∈ lw_gd := za_gd 1327 (by decide +kernel) rfl
theorem v_l_X10_burnt : Cond.methodLink RL 117 yX10_burnt ∈ lw_gd := za_gd 1324 (by decide +kernel) rfl
theorem v_m_X10_burnt : Cond.instanceMethod yX10_burnt ∈ lw_gd := za_gd 1325 (by decide +kernel) rfl
theorem v_s_X10_burnt : Cond.selects RX10 yX10_burnt yX10_burnt ∈ lw_gd := za_gd 1326 (by decide +kernel) rfl
theorem vY_X10_burnt : za_Y yX10_burnt cX10_burnt 7 (some .int) 1 := ⟨v_c_X10_burnt, w_85, by decide +kernel⟩
theorem vV_X10_burnt : za_YV RL 117 yX10_burnt := ⟨v_l_X10_burnt, v_m_X10_burnt, v_s_X10_burnt⟩
theorem v_c_X9_round : Cond.code yX9_round cX9_round 6 (some .int) ∈ lw_gd := za_gd 746 (by decide +kernel) rfl
theorem v_l_X9_round : Cond.methodLink RL 118 yX9_round ∈ lw_gd := za_gd 743 (by decide +kernel) rfl
theorem v_m_X9_round : Cond.instanceMethod yX9_round ∈ lw_gd := za_gd 744 (by decide +kernel) rfl
theorem v_s_X9_round : Cond.selects RX9 yX9_round yX9_round ∈ lw_gd := za_gd 745 (by decide +kernel) rfl
theorem vY_X9_round : za_Y yX9_round cX9_round 6 (some .int) 0 := ⟨v_c_X9_round, v_iX9L, by decide +kernel⟩
theorem vV_X9_round : za_YV RL 118 yX9_round := ⟨v_l_X9_round, v_m_X9_round, v_s_X9_round⟩
theorem v_c_X10_round : Cond.code yX10_round cX10_round 5 (some .int) ∈ lw_gd := za_gd 1334 (by decide +kernel) rfl
theorem v_l_X10_round : Cond.methodLink RL 121 yX10_round ∈ lw_gd := za_gd 1331 (by decide +kernel) rfl
theorem v_m_X10_round : Cond.instanceMethod yX10_round ∈ lw_gd := za_gd 1332 (by decide +kernel) rfl
theorem v_s_X10_round : Cond.selects RX10 yX10_round yX10_round ∈ lw_gd := za_gd 1333 (by decide +kernel) rfl
theorem vY_X10_round : za_Y yX10_round cX10_round 5 (some .int) 0 := ⟨v_c_X10_round, w_85, by decide +kernel⟩
theorem vV_X10_round : za_YV RL 121 yX10_round := ⟨v_l_X10_round, v_m_X10_round, v_s_X10_round⟩
theorem v_c_X9_lender : Cond.code yX9_lender cX9_lender 11 (some .int) ∈ lw_gd := za_gd 754 (by decide +kernel) rfl
theorem v_l_X9_lender : Cond.methodLink RL 122 yX9_lender ∈ lw_gd := za_gd 751 (by decide +kernel) rfl
theorem v_m_X9_lender : Cond.instanceMethod yX9_lender ∈ lw_gd := za_gd 752 (by decide +kernel) rfl
theorem v_s_X9_lender : Cond.selects RX9 yX9_lender yX9_lender ∈ lw_gd := za_gd 753 (by decide +kernel) rfl
theorem vY_X9_lender : za_Y yX9_lender cX9_lender 11 (some .int) 4 := ⟨v_c_X9_lender, v_iX9L, by decide +kernel⟩
theorem vV_X9_lender : za_YV RL 122 yX9_lender := ⟨v_l_X9_lender, v_m_X9_lender, v_s_X9_lender⟩
theorem v_c_X10_lender : Cond.code yX10_lender cX10_lender 9 (some .int) ∈ lw_gd := za_gd 1342 (by decide +kernel) rfl
theorem v_l_X10_lender : Cond.methodLink RL 125 yX10_lender ∈ lw_gd := za_gd 1339 (by decide +kernel) rfl
theorem v_m_X10_lender : Cond.instanceMethod yX10_lender ∈ lw_gd := za_gd 1340 (by decide +kernel) rfl
theorem v_s_X10_lender : Cond.selects RX10 yX10_lender yX10_lender ∈ lw_gd := za_gd 1341 (by decide +kernel) rfl
theorem vY_X10_lender : za_Y yX10_lender cX10_lender 9 (some .int) 4 := ⟨v_c_X10_lender, w_85, by decide +kernel⟩
theorem vV_X10_lender : za_YV RL 125 yX10_lender := ⟨v_l_X10_lender, v_m_X10_lender, v_s_X10_lender⟩
theorem v_c_X9_odds : Cond.code yX9_odds cX9_odds 6 (some .int) ∈ lw_gd := za_gd 762 (by decide +kernel) rfl
theorem v_l_X9_odds : Cond.methodLink RL 126 yX9_odds ∈ lw_gd := za_gd 759 (by decide +kernel) rfl
theorem v_m_X9_odds : Cond.instanceMethod yX9_odds ∈ lw_gd := za_gd 760 (by decide +kernel) rfl
theorem v_s_X9_odds : Cond.selects RX9 yX9_odds yX9_odds ∈ lw_gd := za_gd 761 (by decide +kernel) rfl
theorem vY_X9_odds : za_Y yX9_odds cX9_odds 6 (some .int) 3 := ⟨v_c_X9_odds, v_iX9L, by decide +kernel⟩
theorem vV_X9_odds : za_YV RL 126 yX9_odds := ⟨v_l_X9_odds, v_m_X9_odds, v_s_X9_odds⟩
theorem v_c_X10_odds : Cond.code yX10_odds cX10_odds 8 (some .int) ∈ lw_gd := za_gd 1354 (by decide +kernel) rfl
theorem v_l_X10_odds : Cond.methodLink RL 129 yX10_odds ∈ lw_gd := za_gd 1351 (by decide +kernel) rfl
theorem v_m_X10_odds : Cond.instanceMethod yX10_odds ∈ lw_gd := za_gd 1352 (by decide +kernel) rfl
theorem v_s_X10_odds : Cond.selects RX10 yX10_odds yX10_odds ∈ lw_gd := za_gd 1353 (by decide +kernel) rfl
theorem vY_X10_odds : za_Y yX10_odds cX10_odds 8 (some .int) 3 := ⟨v_c_X10_odds, w_85, by decide +kernel⟩
theorem vV_X10_odds : za_YV RL 129 yX10_odds := ⟨v_l_X10_odds, v_m_X10_odds, v_s_X10_odds⟩
theorem v_c_X9_seed : Cond.code yX9_seed cX9_seed 3 (some .int) ∈ lw_gd := za_gd 775 (by decide +kernel) rfl
theorem v_l_X9_seed : Cond.methodLink RL 130 yX9_seed ∈ lw_gd := za_gd 772 (by decide +kernel) rfl
theorem v_m_X9_seed : Cond.instanceMethod yX9_seed ∈ lw_gd := za_gd 773 (by decide +kernel) rfl
theorem v_s_X9_seed : Cond.selects RX9 yX9_seed yX9_seed ∈ lw_gd := za_gd 774 (by decide +kernel) rfl
theorem vY_X9_seed : za_Y yX9_seed cX9_seed 3 (some .int) 1 := ⟨v_c_X9_seed, v_iX9L, by decide +kernel⟩
theorem vV_X9_seed : za_YV RL 130 yX9_seed := ⟨v_l_X9_seed, v_m_X9_seed, v_s_X9_seed⟩
theorem v_c_X10_seed : Cond.code yX10_seed cX10_seed 2 (some .int) ∈ lw_gd := za_gd 1358 (by decide +kernel) rfl
theorem v_l_X10_seed : Cond.methodLink RL 133 yX10_seed ∈ lw_gd := za_gd 1355 (by decide +kernel) rfl
theorem v_m_X10_seed : Cond.instanceMethod yX10_seed ∈ lw_gd := za_gd 1356 (by decide +kernel) rfl
theorem v_s_X10_seed : Cond.selects RX10 yX10_seed yX10_seed ∈ lw_gd := za_gd 1357 (by decide +kernel) rfl
theorem vY_X10_seed : za_Y yX10_seed cX10_seed 2 (some .int) 1 := ⟨v_c_X10_seed, w_85, by decide +kernel⟩
theorem vV_X10_seed : za_YV RL 133 yX10_seed := ⟨v_l_X10_seed, v_m_X10_seed, v_s_X10_seed⟩
theorem v_c_X9_voice : Cond.code yX9_voice cX9_voice 4 (some .int) ∈ lw_gd := za_gd 779 (by decide +kernel) rfl
theorem v_l_X9_voice : Cond.methodLink RL 134 yX9_voice ∈ lw_gd := za_gd 776 (by decide +kernel) rfl
theorem v_m_X9_voice : Cond.instanceMethod yX9_voice ∈ lw_gd := za_gd 777 (by decide +kernel) rfl
theorem v_s_X9_voice : Cond.selects RX9 yX9_voice yX9_voice ∈ lw_gd := za_gd 778 (by decide +kernel) rfl
theorem vY_X9_voice : za_Y yX9_voice cX9_voice 4 (some .int) 3 := ⟨v_c_X9_voice, v_iX9L, by decide +kernel⟩
theorem vV_X9_voice : za_YV RL 134 yX9_voice := ⟨v_l_X9_voice, v_m_X9_voice, v_s_X9_voice⟩
theorem v_c_X10_voice : Cond.code yX10_voice cX10_voice 4 (some .int) ∈ lw_gd := za_gd 1362 (by decide +kernel) rfl
theorem v_l_X10_voice : Cond.methodLink RL 137 yX10_voice ∈ lw_gd := za_gd 1359 (by decide +kernel) rfl
theorem v_m_X10_voice : Cond.instanceMethod yX10_voice ∈ lw_gd := za_gd 1360 (by decide +kernel) rfl
theorem v_s_X10_voice : Cond.selects RX10 yX10_voice yX10_voice ∈ lw_gd := za_gd 1361 (by decide +kernel) rfl
theorem vY_X10_voice : za_Y yX10_voice cX10_voice 4 (some .int) 3 := ⟨v_c_X10_voice, w_85, by decide +kernel⟩
theorem vV_X10_voice : za_YV RL 137 yX10_voice := ⟨v_l_X10_voice, v_m_X10_voice, v_s_X10_voice⟩
theorem v_c_X9_trace : Cond.code yX9_trace cX9_trace 2 (some .int) ∈ lw_gd := za_gd 811 (by decide +kernel) rfl
theorem v_l_X9_trace : Cond.methodLink RL 138 yX9_trace ∈ lw_gd := za_gd 808 (by decide +kernel) rfl
theorem v_m_X9_trace : Cond.instanceMethod yX9_trace ∈ lw_gd := za_gd 809 (by decide +kernel) rfl
theorem v_s_X9_trace : Cond.selects RX9 yX9_trace yX9_trace ∈ lw_gd := za_gd 810 (by decide +kernel) rfl
theorem vY_X9_trace : za_Y yX9_trace cX9_trace 2 (some .int) 1 := ⟨v_c_X9_trace, v_iX9L, by decide +kernel⟩
theorem vV_X9_trace : za_YV RL 138 yX9_trace := ⟨v_l_X9_trace, v_m_X9_trace, v_s_X9_trace⟩
theorem v_c_X10_trace : Cond.code yX10_trace cX10_trace 2 (some .int) ∈ lw_gd := za_gd 1390 (by decide +kernel) rfl
theorem v_l_X10_trace : Cond.methodLink RL 141 yX10_trace ∈ lw_gd := za_gd 1387 (by decide +kernel) rfl
theorem v_m_X10_trace : Cond.instanceMethod yX10_trace ∈ lw_gd := za_gd 1388 (by decide +kernel) rfl
theorem v_s_X10_trace : Cond.selects RX10 yX10_trace yX10_trace ∈ lw_gd := za_gd 1389 (by decide +kernel) rfl
theorem vY_X10_trace : za_Y yX10_trace cX10_trace 2 (some .int) 1 := ⟨v_c_X10_trace, w_85, by decide +kernel⟩
theorem vV_X10_trace : za_YV RL 141 yX10_trace := ⟨v_l_X10_trace, v_m_X10_trace, v_s_X10_trace⟩
theorem v_c_X9_sheet : Cond.code yX9_sheet cX9_sheet 5 (some .int) ∈ lw_gd := za_gd 815 (by decide +kernel) rfl
theorem v_l_X9_sheet : Cond.methodLink RL 142 yX9_sheet ∈ lw_gd := za_gd 812 (by decide +kernel) rfl
theorem v_m_X9_sheet : Cond.instanceMethod yX9_sheet ∈ lw_gd := za_gd 813 (by decide +kernel) rfl
theorem v_s_X9_sheet : Cond.selects RX9 yX9_sheet yX9_sheet ∈ lw_gd := za_gd 814 (by decide +kernel) rfl
theorem vY_X9_sheet : za_Y yX9_sheet cX9_sheet 5 (some .int) 3 := ⟨v_c_X9_sheet, v_iX9L, by decide +kernel⟩
theorem vV_X9_sheet : za_YV RL 142 yX9_sheet := ⟨v_l_X9_sheet, v_m_X9_sheet, v_s_X9_sheet⟩
theorem v_c_X10_sheet : Cond.code yX10_sheet cX10_sheet 5 (some .int) ∈ lw_gd := za_gd 1394 (by decide +kernel) rfl
theorem v_l_X10_sheet : Cond.methodLink RL 145 yX10_sheet ∈ lw_gd := za_gd 1391 (by decide +kernel) rfl
theorem v_m_X10_sheet : Cond.instanceMethod yX10_sheet ∈ lw_gd := za_gd 1392 (by decide +kernel) rfl
theorem v_s_X10_sheet : Cond.selects RX10 yX10_sheet yX10_sheet ∈ lw_gd := za_gd 1393 (by decide +kernel) rfl
theorem vY_X10_sheet : za_Y yX10_sheet cX10_sheet 5 (some .int) 3 := ⟨v_c_X10_sheet, w_85, by decide +kernel⟩
theorem vV_X10_sheet : za_YV RL 145 yX10_sheet := ⟨v_l_X10_sheet, v_m_X10_sheet, v_s_X10_sheet⟩
theorem v_c_X9_put : Cond.code yX9_put cX9_put 4 (some .int) ∈ lw_gd := za_gd 824 (by decide +kernel) rfl
theorem v_l_X9_put : Cond.methodLink RL 146 yX9_put ∈ lw_gd := za_gd 821 (by decide +kernel) rfl
theorem v_m_X9_put : Cond.instanceMethod yX9_put ∈ lw_gd := za_gd 822 (by decide +kernel) rfl
theorem v_s_X9_put : Cond.selects RX9 yX9_put yX9_put ∈ lw_gd := za_gd 823 (by decide +kernel) rfl
theorem vY_X9_put : za_Y yX9_put cX9_put 4 (some .int) 3 := ⟨v_c_X9_put, v_iX9L, by decide +kernel⟩
theorem vV_X9_put : za_YV RL 146 yX9_put := ⟨v_l_X9_put, v_m_X9_put, v_s_X9_put⟩
theorem v_c_X10_put : Cond.code yX10_put cX10_put 4 (some .int) ∈ lw_gd := za_gd 1398 (by decide +kernel) rfl
theorem v_l_X10_put : Cond.methodLink RL 149 yX10_put ∈ lw_gd := za_gd 1395 (by decide +kernel) rfl
theorem v_m_X10_put : Cond.instanceMethod yX10_put ∈ lw_gd := za_gd 1396 (by decide +kernel) rfl
theorem v_s_X10_put : Cond.selects RX10 yX10_put yX10_put ∈ lw_gd := za_gd 1397 (by decide +kernel) rfl
theorem vY_X10_put : za_Y yX10_put cX10_put 4 (some .int) 3 := ⟨v_c_X10_put, w_85, by decide +kernel⟩
theorem vV_X10_put : za_YV RL 149 yX10_put := ⟨v_l_X10_put, v_m_X10_put, v_s_X10_put⟩
theorem v_c_X9_move : Cond.code yX9_move cX9_move 8 (some .int) ∈ lw_gd := za_gd 832 (by decide +kernel) rfl
theorem v_l_X9_move : Cond.methodLink RL 150 yX9_move ∈ lw_gd := za_gd 829 (by decide +kernel) rfl
theorem v_m_X9_move : Cond.instanceMethod yX9_move ∈ lw_gd := za_gd 830 (by decide +kernel) rfl
theorem v_s_X9_move : Cond.selects RX9 yX9_move yX9_move ∈ lw_gd := za_gd 831 (by decide +kernel) rfl
theorem vY_X9_move : za_Y yX9_move cX9_move 8 (some .int) 5 := ⟨v_c_X9_move, v_iX9L, by decide +kernel⟩
theorem vV_X9_move : za_YV RL 150 yX9_move := ⟨v_l_X9_move, v_m_X9_move, v_s_X9_move⟩
theorem v_c_X10_move : Cond.code yX10_move cX10_move 7 (some .int) ∈ lw_gd := za_gd 1402 (by decide +kernel) rfl
theorem v_l_X10_move : Cond.methodLink RL 153 yX10_move ∈ lw_gd := za_gd 1399 (by decide +kernel) rfl
theorem v_m_X10_move : Cond.instanceMethod yX10_move ∈ lw_gd := za_gd 1400 (by decide +kernel) rfl
theorem v_s_X10_move : Cond.selects RX10 yX10_move yX10_move ∈ lw_gd := za_gd 1401 (by decide +kernel) rfl
theorem vY_X10_move : za_Y yX10_move cX10_move 7 (some .int) 5 := ⟨v_c_X10_move, w_85, by decide +kernel⟩
theorem vV_X10_move : za_YV RL 153 yX10_move := ⟨v_l_X10_move, v_m_X10_move, v_s_X10_move⟩
theorem v_c_X9_hedges : Cond.code yX9_hedges cX9_hedges 5 (some .int) ∈ lw_gd := za_gd 841 (by decide +kernel) rfl
theorem v_l_X9_hedges : Cond.methodLink RL 154 yX9_hedges ∈ lw_gd := za_gd 838 (by decide +kernel) rfl
theorem v_m_X9_hedges : Cond.instanceMethod yX9_hedges ∈ lw_gd := za_gd 839 (by decide +kernel) rfl
theorem v_s_X9_hedges : Cond.selects RX9 yX9_hedges yX9_hedges ∈ lw_gd := za_gd 840 (by decide +kernel) rfl
theorem vY_X9_hedges : za_Y yX9_hedges cX9_hedges 5 (some .int) 1 := ⟨v_c_X9_hedges, v_iX9L, by decide +kernel⟩
theorem vV_X9_hedges : za_YV RL 154 yX9_hedges := ⟨v_l_X9_hedges, v_m_X9_hedges, v_s_X9_hedges⟩
theorem v_c_X10_hedges : Cond.code yX10_hedges cX10_hedges 3 (some .int) ∈ lw_gd := za_gd 1406 (by decide +kernel) rfl
theorem v_l_X10_hedges : Cond.methodLink RL 157 yX10_hedges ∈ lw_gd := za_gd 1403 (by decide +kernel) rfl
theorem v_m_X10_hedges : Cond.instanceMethod yX10_hedges ∈ lw_gd := za_gd 1404 (by decide +kernel) rfl
theorem v_s_X10_hedges : Cond.selects RX10 yX10_hedges yX10_hedges ∈ lw_gd := za_gd 1405 (by decide +kernel) rfl
theorem vY_X10_hedges : za_Y yX10_hedges cX10_hedges 3 (some .int) 1 := ⟨v_c_X10_hedges, w_85, by decide +kernel⟩
theorem vV_X10_hedges : za_YV RL 157 yX10_hedges := ⟨v_l_X10_hedges, v_m_X10_hedges, v_s_X10_hedges⟩
theorem v_c_X9_judge : Cond.code yX9_judge cX9_judge 5 (some .int) ∈ lw_gd := za_gd 845 (by decide +kernel) rfl
theorem v_l_X9_judge : Cond.methodLink RL 158 yX9_judge ∈ lw_gd := za_gd 842 (by decide +kernel) rfl
theorem v_m_X9_judge : Cond.instanceMethod yX9_judge ∈ lw_gd := za_gd 843 (by decide +kernel) rfl
theorem v_s_X9_judge : Cond.selects RX9 yX9_judge yX9_judge ∈ lw_gd := za_gd 844 (by decide +kernel) rfl
theorem vY_X9_judge : za_Y yX9_judge cX9_judge 5 (some .int) 1 := ⟨v_c_X9_judge, v_iX9L, by decide +kernel⟩
theorem vV_X9_judge : za_YV RL 158 yX9_judge := ⟨v_l_X9_judge, v_m_X9_judge, v_s_X9_judge⟩
theorem v_c_X10_judge : Cond.code yX10_judge cX10_judge 3 (some .int) ∈ lw_gd := za_gd 1410 (by decide +kernel) rfl
theorem v_l_X10_judge : Cond.methodLink RL 161 yX10_judge ∈ lw_gd := za_gd 1407 (by decide +kernel) rfl
theorem v_m_X10_judge : Cond.instanceMethod yX10_judge ∈ lw_gd := za_gd 1408 (by decide +kernel) rfl
theorem v_s_X10_judge : Cond.selects RX10 yX10_judge yX10_judge ∈ lw_gd := za_gd 1409 (by decide +kernel) rfl
theorem vY_X10_judge : za_Y yX10_judge cX10_judge 3 (some .int) 1 := ⟨v_c_X10_judge, w_85, by decide +kernel⟩
theorem vV_X10_judge : za_YV RL 161 yX10_judge := ⟨v_l_X10_judge, v_m_X10_judge, v_s_X10_judge⟩
theorem v_c_X9_image : Cond.code yX9_image cX9_image 1 (some .int) ∈ lw_gd := za_gd 849 (by decide +kernel) rfl
theorem v_l_X9_image : Cond.methodLink RL 162 yX9_image ∈ lw_gd := za_gd 846 (by decide +kernel) rfl
theorem v_m_X9_image : Cond.instanceMethod yX9_image ∈ lw_gd := za_gd 847 (by decide +kernel) rfl
theorem v_s_X9_image : Cond.selects RX9 yX9_image yX9_image ∈ lw_gd := za_gd 848 (by decide +kernel) rfl
theorem vY_X9_image : za_Y yX9_image cX9_image 1 (some .int) 0 := ⟨v_c_X9_image, v_iX9L, by decide +kernel⟩
theorem vV_X9_image : za_YV RL 162 yX9_image := ⟨v_l_X9_image, v_m_X9_image, v_s_X9_image⟩
theorem v_c_X10_image : Cond.code yX10_image cX10_image 1 (some .int) ∈ lw_gd := za_gd 1414 (by decide +kernel) rfl
theorem v_l_X10_image : Cond.methodLink RL 165 yX10_image ∈ lw_gd := za_gd 1411 (by decide +kernel) rfl
theorem v_m_X10_image : Cond.instanceMethod yX10_image ∈ lw_gd := za_gd 1412 (by decide +kernel) rfl
theorem v_s_X10_image : Cond.selects RX10 yX10_image yX10_image ∈ lw_gd := za_gd 1413 (by decide +kernel) rfl
theorem vY_X10_image : za_Y yX10_image cX10_image 1 (some .int) 0 := ⟨v_c_X10_image, w_85, by decide +kernel⟩
theorem vV_X10_image : za_YV RL 165 yX10_image := ⟨v_l_X10_image, v_m_X10_image, v_s_X10_image⟩
theorem v_c_X9_restore : Cond.code yX9_restore cX9_restore 1 (some .int) ∈ lw_gd := za_gd 860 (by decide +kernel) rfl
theorem v_l_X9_restore : Cond.methodLink RL 166 yX9_restore ∈ lw_gd := za_gd 857 (by decide +kernel) rfl
theorem v_m_X9_restore : Cond.instanceMethod yX9_restore ∈ lw_gd := za_gd 858 (by decide +kernel) rfl
theorem v_s_X9_restore : Cond.selects RX9 yX9_restore yX9_restore ∈ lw_gd := za_gd 859 (by decide +kernel) rfl
theorem vY_X9_restore : za_Y yX9_restore cX9_restore 1 (some .int) 0 := ⟨v_c_X9_restore, v_iX9L, by decide +kernel⟩
theorem vV_X9_restore : za_YV RL 166 yX9_restore := ⟨v_l_X9_restore, v_m_X9_restore, v_s_X9_restore⟩
theorem v_c_X10_restore : Cond.code yX10_restore cX10_restore 1 (some .int) ∈ lw_gd := za_gd 1418 (by decide +kernel) rfl
theorem v_l_X10_restore : Cond.methodLink RL 169 yX10_restore ∈ lw_gd := za_gd 1415 (by decide +kernel) rfl
theorem v_m_X10_restore : Cond.instanceMethod yX10_restore ∈ lw_gd := za_gd 1416 (by decide +kernel) rfl
theorem v_s_X10_restore : Cond.selects RX10 yX10_restore yX10_restore ∈ lw_gd := za_gd 1417 (by decide +kernel) rfl
theorem vY_X10_restore : za_Y yX10_restore cX10_restore 1 (some .int) 0 := ⟨v_c_X10_restore, w_85, by decide +kernel⟩
theorem vV_X10_restore : za_YV RL 169 yX10_restore := ⟨v_l_X10_restore, v_m_X10_restore, v_s_X10_restore⟩
theorem v_c_X9_tell : Cond.code yX9_tell cX9_tell 2 (some .int) ∈ lw_gd := za_gd 864 (by decide +kernel) rfl
theorem v_l_X9_tell : Cond.methodLink RL 170 yX9_tell ∈ lw_gd := za_gd 861 (by decide +kernel) rfl
theorem v_m_X9_tell : Cond.instanceMethod yX9_tell ∈ lw_gd := za_gd 862 (by decide +kernel) rfl
theorem v_s_X9_tell : Cond.selects RX9 yX9_tell yX9_tell ∈ lw_gd := za_gd 863 (by decide +kernel) rfl
theorem vY_X9_tell : za_Y yX9_tell cX9_tell 2 (some .int) 1 := ⟨v_c_X9_tell, v_iX9L, by decide +kernel⟩
theorem vV_X9_tell : za_YV RL 170 yX9_tell := ⟨v_l_X9_tell, v_m_X9_tell, v_s_X9_tell⟩
theorem v_c_X10_tell : Cond.code yX10_tell cX10_tell 2 (some .int) ∈ lw_gd := za_gd 1422 (by decide +kernel) rfl
theorem v_l_X10_tell : Cond.methodLink RL 173 yX10_tell ∈ lw_gd := za_gd 1419 (by decide +kernel) rfl
theorem v_m_X10_tell : Cond.instanceMethod yX10_tell ∈ lw_gd := za_gd 1420 (by decide +kernel) rfl
theorem v_s_X10_tell : Cond.selects RX10 yX10_tell yX10_tell ∈ lw_gd := za_gd 1421 (by decide +kernel) rfl
theorem vY_X10_tell : za_Y yX10_tell cX10_tell 2 (some .int) 1 := ⟨v_c_X10_tell, w_85, by decide +kernel⟩
theorem vV_X10_tell : za_YV RL 173 yX10_tell := ⟨v_l_X10_tell, v_m_X10_tell, v_s_X10_tell⟩
theorem v_c_X9_check : Cond.code yX9_check cX9_check 3 (some .int) ∈ lw_gd := za_gd 868 (by decide +kernel) rfl
theorem v_l_X9_check : Cond.methodLink RL 174 yX9_check ∈ lw_gd := za_gd 865 (by decide +kernel) rfl
theorem v_m_X9_check : Cond.instanceMethod yX9_check ∈ lw_gd := za_gd 866 (by decide +kernel) rfl
theorem v_s_X9_check : Cond.selects RX9 yX9_check yX9_check ∈ lw_gd := za_gd 867 (by decide +kernel) rfl
theorem vY_X9_check : za_Y yX9_check cX9_check 3 (some .int) 0 := ⟨v_c_X9_check, v_iX9L, by decide +kernel⟩
theorem vV_X9_check : za_YV RL 174 yX9_check := ⟨v_l_X9_check, v_m_X9_check, v_s_X9_check⟩
theorem v_c_X10_check : Cond.code yX10_check cX10_check 4 (some .int) ∈ lw_gd := za_gd 1426 (by decide +kernel) rfl
theorem v_l_X10_check : Cond.methodLink RL 177 yX10_check ∈ lw_gd := za_gd 1423 (by decide +kernel) rfl
theorem v_m_X10_check : Cond.instanceMethod yX10_check ∈ lw_gd := za_gd 1424 (by decide +kernel) rfl
theorem v_s_X10_check : Cond.selects RX10 yX10_check yX10_check ∈ lw_gd := za_gd 1425 (by decide +kernel) rfl
theorem vY_X10_check : za_Y yX10_check cX10_check 4 (some .int) 0 := ⟨v_c_X10_check, w_85, by decide +kernel⟩
theorem vV_X10_check : za_YV RL 177 yX10_check := ⟨v_l_X10_check, v_m_X10_check, v_s_X10_check⟩
theorem v_c_X9_count : Cond.code yX9_count cX9_count 2 (some .int) ∈ lw_gd := za_gd 872 (by decide +kernel) rfl
theorem v_l_X9_count : Cond.methodLink RL 178 yX9_count ∈ lw_gd := za_gd 869 (by decide +kernel) rfl
theorem v_m_X9_count : Cond.instanceMethod yX9_count ∈ lw_gd := za_gd 870 (by decide +kernel) rfl
theorem v_s_X9_count : Cond.selects RX9 yX9_count yX9_count ∈ lw_gd := za_gd 871 (by decide +kernel) rfl
theorem vY_X9_count : za_Y yX9_count cX9_count 2 (some .int) 1 := ⟨v_c_X9_count, v_iX9L, by decide +kernel⟩
theorem vV_X9_count : za_YV RL 178 yX9_count := ⟨v_l_X9_count, v_m_X9_count, v_s_X9_count⟩
theorem v_c_X10_count : Cond.code yX10_count cX10_count 2 (some .int) ∈ lw_gd := za_gd 1430 (by decide +kernel) rfl
theorem v_l_X10_count : Cond.methodLink RL 181 yX10_count ∈ lw_gd := za_gd 1427 (by decide +kernel) rfl
theorem v_m_X10_count : Cond.instanceMethod yX10_count ∈ lw_gd := za_gd 1428 (by decide +kernel) rfl
theorem v_s_X10_count : Cond.selects RX10 yX10_count yX10_count ∈ lw_gd := za_gd 1429 (by decide +kernel) rfl
theorem vY_X10_count : za_Y yX10_count cX10_count 2 (some .int) 1 := ⟨v_c_X10_count, w_85, by decide +kernel⟩
theorem vV_X10_count : za_YV RL 181 yX10_count := ⟨v_l_X10_count, v_m_X10_count, v_s_X10_count⟩
theorem v_c_X9_told : Cond.code yX9_told cX9_told 2 (some .int) ∈ lw_gd := za_gd 880 (by decide +kernel) rfl
theorem v_l_X9_told : Cond.methodLink RL 182 yX9_told ∈ lw_gd := za_gd 877 (by decide +kernel) rfl
theorem v_m_X9_told : Cond.instanceMethod yX9_told ∈ lw_gd := za_gd 878 (by decide +kernel) rfl
theorem v_s_X9_told : Cond.selects RX9 yX9_told yX9_told ∈ lw_gd := za_gd 879 (by decide +kernel) rfl
theorem vY_X9_told : za_Y yX9_told cX9_told 2 (some .int) 1 := ⟨v_c_X9_told, v_iX9L, by decide +kernel⟩
theorem vV_X9_told : za_YV RL 182 yX9_told := ⟨v_l_X9_told, v_m_X9_told, v_s_X9_told⟩
theorem v_c_X10_told : Cond.code yX10_told cX10_told 2 (some .int) ∈ lw_gd := za_gd 1438 (by decide +kernel) rfl
theorem v_l_X10_told : Cond.methodLink RL 185 yX10_told ∈ lw_gd := za_gd 1435 (by decide +kernel) rfl
theorem v_m_X10_told : Cond.instanceMethod yX10_told ∈ lw_gd := za_gd 1436 (by decide +kernel) rfl
theorem v_s_X10_told : Cond.selects RX10 yX10_told yX10_told ∈ lw_gd := za_gd 1437 (by decide +kernel) rfl
theorem vY_X10_told : za_Y yX10_told cX10_told 2 (some .int) 1 := ⟨v_c_X10_told, w_85, by decide +kernel⟩
theorem vV_X10_told : za_YV RL 185 yX10_told := ⟨v_l_X10_told, v_m_X10_told, v_s_X10_told⟩
abbrev zl_lv (b : Nat) (g : za_L → Nat) (n : Nat) : List (Nat × Value) := [(0, .ref b), (1, .ref (g (0, 0, 0))), (2, .ref (g (27, 0, 0))), (3, .int (nI n))]
section ZLW
variable {p : Program} {l : Launch} {e : Env} {s : State} {m : MethodId} {below : List Frame} {meth : Method} {c : Code} {g : za_L → Nat} {D : va_G} {cy : Nat → ClassId} {b L : Nat} {xs : Nat → Int32} {Q : State → Prop}
theorem zt_sld {R : Room} {nc ns : Nat} {nL : Nat} {cc : ByteArray} {own : String} {M : za_M} {pc : Nat} {lv : List (Nat × Value)} {rest : List Value} (C : za_C p s m #[Value.ref b] c cc nL own g D cy) (hX : va_X b L xs s s.heap) (hbl : b < s.heap.size) (hbA : ¬ za_A g b) {i : Int32} (hin : vp_in i L) (hdg : decode cc pc = .ok (.iaload, 1)) (kk : zt p l e R s m #[Value.ref b] below meth c nc ns Q g D cy nL M (pc + 1) lv (.int (xs i.toNatClampNeg) :: rest)) : zt p l e R s m #[Value.ref b] below meth c nc ns Q g D cy nL M pc lv (.int i :: .ref b :: rest) := fun H locs ls hP hS hl => va_sld C.1 C.2.1 hX hbl hbA hS hin hdg (kk H locs ls hP hS hl)
theorem zt_slen {R : Room} {nc ns : Nat} {nL : Nat} {cc : ByteArray} {own : String} {M : za_M} {pc : Nat} {lv : List (Nat × Value)} {rest : List Value} (C : za_C p s m #[Value.ref b] c cc nL own g D cy) (hX : va_X b L xs s s.heap) (hbl : b < s.heap.size) (hbA : ¬ za_A g b) (hdg : decode cc pc = .ok (.arraylength, 1)) (kk : zt p l e R s m #[Value.ref b] below meth c nc ns Q g D cy nL M (pc + 1) lv (.int (nI L) :: rest)) : zt p l e R s m #[Value.ref b] below meth c nc ns Q g D cy nL M pc lv (.ref b :: rest) := fun H locs ls hP hS hl => va_slen C.1 C.2.1 hX hbl hbA hS hdg (kk H locs ls hP hS hl)
theorem zl_arg (C : za_C p s m #[Value.ref b] c code 4 RL g D cy) (hX : va_X b L xs s s.heap) (hbl : b < s.heap.size) (hbA : ¬ za_A g b) (hL : L ≤ 3072) {M : za_M} {n k pc : Nat} {ki : Int} {rest : List Value} (hk : n + k < L) (d1 : decode code pc = .ok (.aload_n 0, 1)) (d2 : decode code (pc + 1) = .ok (.iload_n 3, 1)) (d3 : decode code (pc + 1 + 1) = .ok (.iconst ki, 1)) (d4 : decode code (pc + 1 + 1 + 1) = .ok (.iadd, 1)) (d5 : decode code (pc + 1 + 1 + 1 + 1) = .ok (.iaload, 1)) (kk : zt p l e room_1 s m #[Value.ref b] below meth c 133 2551 Q g D cy 4 M (pc + 1 + 1 + 1 + 1 + 1) (zl_lv b g n) (.int (xs (n + k)) :: rest)) (hki : Int32.ofInt ki = nI k := by rfl) : zt p l e room_1 s m #[Value.ref b] below meth c 133 2551 Q g D cy 4 M pc (zl_lv b g n) rest := by
  refine zt_aload_n C 0 d1 rfl rfl ?_
  refine zt_iload_n C 3 d2 rfl rfl ?_
  refine zt_iconst C d3 hki ?_
  refine zt_iadd C d4 ?_
  rw [nI_add]
  refine zt_sld C hX hbl hbA (vp_in_nI hk (by omega)) d5 ?_
  rw [nI_clamp (by omega)]
  exact kk
end ZLW
