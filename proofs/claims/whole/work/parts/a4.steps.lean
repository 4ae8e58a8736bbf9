/-! the law's own loop, case by case -/
theorem f0_18 : mFetch 0 18 = some (.iload_n 3, 1, 0, 0, 0, 0) := by decide +kernel
theorem f0_19 : mFetch 0 19 = some (.aload_n 0, 1, 0, 0, 0, 0) := by decide +kernel
theorem f0_20 : mFetch 0 20 = some (.arraylength, 1, 0, 0, 0, 0) := by decide +kernel
theorem f0_21 : mFetch 0 21 = some (.bipush 6, 2, 0, 0, 0, 0) := by decide +kernel
theorem f0_23 : mFetch 0 23 = some (.isub, 1, 0, 0, 0, 0) := by decide +kernel
theorem f0_24 : mFetch 0 24 = some (.if_icmp .gt 1417, 3, 1441, 0, 0, 0) := by decide +kernel
theorem f0_27 : mFetch 0 27 = some (.aload_n 0, 1, 0, 0, 0, 0) := by decide +kernel
theorem f0_28 : mFetch 0 28 = some (.iload_n 3, 1, 0, 0, 0, 0) := by decide +kernel
theorem f0_29 : mFetch 0 29 = some (.iaload, 1, 0, 0, 0, 0) := by decide +kernel
theorem f0_30 : mFetch 0 30 = some (.bipush 63, 2, 0, 0, 0, 0) := by decide +kernel
theorem f0_32 : mFetch 0 32 = some (.iand, 1, 0, 0, 0, 0) := by decide +kernel
theorem f0_33 : mFetch 0 33 = some (.tableswitch 1402 0 40 #[179, 242, 265, 278, 291, 314, 347, 380, 403, 436, 449, 472, 495, 528, 561, 574, 607, 640, 663, 696, 729, 762, 805, 838, 881, 914, 937, 970, 1003, 1026, 1059, 1082, 1125, 1158, 1201, 1224, 1257, 1280, 1333, 1356, 1379], 179, 0, 0, 0, 0) := by decide +kernel
theorem f0_212 : mFetch 0 212 = some (.aload_n 1, 1, 0, 0, 0, 0) := by decide +kernel
theorem f0_213 : mFetch 0 213 = some (.aload_n 0, 1, 0, 0, 0, 0) := by decide +kernel
theorem f0_214 : mFetch 0 214 = some (.iload_n 3, 1, 0, 0, 0, 0) := by decide +kernel
theorem f0_215 : mFetch 0 215 = some (.iconst 1, 1, 0, 0, 0, 0) := by decide +kernel
theorem f0_216 : mFetch 0 216 = some (.iadd, 1, 0, 0, 0, 0) := by decide +kernel
theorem f0_217 : mFetch 0 217 = some (.iaload, 1, 0, 0, 0, 0) := by decide +kernel
theorem f0_218 : mFetch 0 218 = some (.aload_n 0, 1, 0, 0, 0, 0) := by decide +kernel
theorem f0_219 : mFetch 0 219 = some (.iload_n 3, 1, 0, 0, 0, 0) := by decide +kernel
theorem f0_220 : mFetch 0 220 = some (.iconst 2, 1, 0, 0, 0, 0) := by decide +kernel
theorem f0_221 : mFetch 0 221 = some (.iadd, 1, 0, 0, 0, 0) := by decide +kernel
theorem f0_222 : mFetch 0 222 = some (.iaload, 1, 0, 0, 0, 0) := by decide +kernel
theorem f0_223 : mFetch 0 223 = some (.aload_n 0, 1, 0, 0, 0, 0) := by decide +kernel
theorem f0_224 : mFetch 0 224 = some (.iload_n 3, 1, 0, 0, 0, 0) := by decide +kernel
theorem f0_225 : mFetch 0 225 = some (.iconst 3, 1, 0, 0, 0, 0) := by decide +kernel
theorem f0_226 : mFetch 0 226 = some (.iadd, 1, 0, 0, 0, 0) := by decide +kernel
theorem f0_227 : mFetch 0 227 = some (.iaload, 1, 0, 0, 0, 0) := by decide +kernel
theorem f0_228 : mFetch 0 228 = some (.aload_n 0, 1, 0, 0, 0, 0) := by decide +kernel
theorem f0_229 : mFetch 0 229 = some (.iload_n 3, 1, 0, 0, 0, 0) := by decide +kernel
theorem f0_230 : mFetch 0 230 = some (.iconst 4, 1, 0, 0, 0, 0) := by decide +kernel
theorem f0_231 : mFetch 0 231 = some (.iadd, 1, 0, 0, 0, 0) := by decide +kernel
theorem f0_232 : mFetch 0 232 = some (.iaload, 1, 0, 0, 0, 0) := by decide +kernel
theorem f0_233 : mFetch 0 233 = some (.aload_n 0, 1, 0, 0, 0, 0) := by decide +kernel
theorem f0_234 : mFetch 0 234 = some (.iload_n 3, 1, 0, 0, 0, 0) := by decide +kernel
theorem f0_235 : mFetch 0 235 = some (.iconst 5, 1, 0, 0, 0, 0) := by decide +kernel
theorem f0_236 : mFetch 0 236 = some (.iadd, 1, 0, 0, 0, 0) := by decide +kernel
theorem f0_237 : mFetch 0 237 = some (.iaload, 1, 0, 0, 0, 0) := by decide +kernel
theorem f0_238 : mFetch 0 238 = some (.invokevirtual 13, 3, 122, 0, 6, 11) := by decide +kernel
theorem f0_241 : mFetch 0 241 = some (.aload_n 2, 1, 0, 0, 0, 0) := by decide +kernel
theorem f0_242 : mFetch 0 242 = some (.aload_n 0, 1, 0, 0, 0, 0) := by decide +kernel
theorem f0_243 : mFetch 0 243 = some (.iload_n 3, 1, 0, 0, 0, 0) := by decide +kernel
theorem f0_244 : mFetch 0 244 = some (.iconst 1, 1, 0, 0, 0, 0) := by decide +kernel
theorem f0_245 : mFetch 0 245 = some (.iadd, 1, 0, 0, 0, 0) := by decide +kernel
theorem f0_246 : mFetch 0 246 = some (.iaload, 1, 0, 0, 0, 0) := by decide +kernel
theorem f0_247 : mFetch 0 247 = some (.aload_n 0, 1, 0, 0, 0, 0) := by decide +kernel
theorem f0_248 : mFetch 0 248 = some (.iload_n 3, 1, 0, 0, 0, 0) := by decide +kernel
theorem f0_249 : mFetch 0 249 = some (.iconst 2, 1, 0, 0, 0, 0) := by decide +kernel
theorem f0_250 : mFetch 0 250 = some (.iadd, 1, 0, 0, 0, 0) := by decide +kernel
theorem f0_251 : mFetch 0 251 = some (.iaload, 1, 0, 0, 0, 0) := by decide +kernel
theorem f0_252 : mFetch 0 252 = some (.aload_n 0, 1, 0, 0, 0, 0) := by decide +kernel
theorem f0_253 : mFetch 0 253 = some (.iload_n 3, 1, 0, 0, 0, 0) := by decide +kernel
theorem f0_254 : mFetch 0 254 = some (.iconst 3, 1, 0, 0, 0, 0) := by decide +kernel
theorem f0_255 : mFetch 0 255 = some (.iadd, 1, 0, 0, 0, 0) := by decide +kernel
theorem f0_256 : mFetch 0 256 = some (.iaload, 1, 0, 0, 0, 0) := by decide +kernel
theorem f0_257 : mFetch 0 257 = some (.aload_n 0, 1, 0, 0, 0, 0) := by decide +kernel
theorem f0_258 : mFetch 0 258 = some (.iload_n 3, 1, 0, 0, 0, 0) := by decide +kernel
theorem f0_259 : mFetch 0 259 = some (.iconst 4, 1, 0, 0, 0, 0) := by decide +kernel
theorem f0_260 : mFetch 0 260 = some (.iadd, 1, 0, 0, 0, 0) := by decide +kernel
theorem f0_261 : mFetch 0 261 = some (.iaload, 1, 0, 0, 0, 0) := by decide +kernel
theorem f0_262 : mFetch 0 262 = some (.aload_n 0, 1, 0, 0, 0, 0) := by decide +kernel
theorem f0_263 : mFetch 0 263 = some (.iload_n 3, 1, 0, 0, 0, 0) := by decide +kernel
theorem f0_264 : mFetch 0 264 = some (.iconst 5, 1, 0, 0, 0, 0) := by decide +kernel
theorem f0_265 : mFetch 0 265 = some (.iadd, 1, 0, 0, 0, 0) := by decide +kernel
theorem f0_266 : mFetch 0 266 = some (.iaload, 1, 0, 0, 0, 0) := by decide +kernel
theorem f0_267 : mFetch 0 267 = some (.invokevirtual 17, 3, 171, 0, 6, 12) := by decide +kernel
theorem f0_270 : mFetch 0 270 = some (.if_icmp .eq 1165, 3, 1435, 0, 0, 0) := by decide +kernel
theorem f0_273 : mFetch 0 273 = some (.iconst 0, 1, 0, 0, 0, 0) := by decide +kernel
theorem f0_274 : mFetch 0 274 = some (.ireturn, 1, 0, 0, 0, 0) := by decide +kernel
theorem f0_275 : mFetch 0 275 = some (.aload_n 1, 1, 0, 0, 0, 0) := by decide +kernel
theorem f0_276 : mFetch 0 276 = some (.aload_n 0, 1, 0, 0, 0, 0) := by decide +kernel
theorem f0_277 : mFetch 0 277 = some (.iload_n 3, 1, 0, 0, 0, 0) := by decide +kernel
theorem f0_278 : mFetch 0 278 = some (.iconst 1, 1, 0, 0, 0, 0) := by decide +kernel
theorem f0_279 : mFetch 0 279 = some (.iadd, 1, 0, 0, 0, 0) := by decide +kernel
theorem f0_280 : mFetch 0 280 = some (.iaload, 1, 0, 0, 0, 0) := by decide +kernel
theorem f0_281 : mFetch 0 281 = some (.invokevirtual 18, 3, 123, 0, 2, 11) := by decide +kernel
theorem f0_284 : mFetch 0 284 = some (.aload_n 2, 1, 0, 0, 0, 0) := by decide +kernel
theorem f0_285 : mFetch 0 285 = some (.aload_n 0, 1, 0, 0, 0, 0) := by decide +kernel
theorem f0_286 : mFetch 0 286 = some (.iload_n 3, 1, 0, 0, 0, 0) := by decide +kernel
theorem f0_287 : mFetch 0 287 = some (.iconst 1, 1, 0, 0, 0, 0) := by decide +kernel
theorem f0_288 : mFetch 0 288 = some (.iadd, 1, 0, 0, 0, 0) := by decide +kernel
theorem f0_289 : mFetch 0 289 = some (.iaload, 1, 0, 0, 0, 0) := by decide +kernel
theorem f0_290 : mFetch 0 290 = some (.invokevirtual 22, 3, 172, 0, 2, 12) := by decide +kernel
theorem f0_293 : mFetch 0 293 = some (.if_icmp .eq 1142, 3, 1435, 0, 0, 0) := by decide +kernel
theorem f0_296 : mFetch 0 296 = some (.iconst 0, 1, 0, 0, 0, 0) := by decide +kernel
theorem f0_297 : mFetch 0 297 = some (.ireturn, 1, 0, 0, 0, 0) := by decide +kernel
theorem f0_298 : mFetch 0 298 = some (.aload_n 1, 1, 0, 0, 0, 0) := by decide +kernel
theorem f0_299 : mFetch 0 299 = some (.invokevirtual 23, 3, 124, 0, 1, 11) := by decide +kernel
theorem f0_302 : mFetch 0 302 = some (.aload_n 2, 1, 0, 0, 0, 0) := by decide +kernel
theorem f0_303 : mFetch 0 303 = some (.invokevirtual 27, 3, 206, 0, 1, 12) := by decide +kernel
theorem f0_306 : mFetch 0 306 = some (.if_icmp .eq 1129, 3, 1435, 0, 0, 0) := by decide +kernel
theorem f0_309 : mFetch 0 309 = some (.iconst 0, 1, 0, 0, 0, 0) := by decide +kernel
theorem f0_310 : mFetch 0 310 = some (.ireturn, 1, 0, 0, 0, 0) := by decide +kernel
theorem f0_311 : mFetch 0 311 = some (.aload_n 1, 1, 0, 0, 0, 0) := by decide +kernel
theorem f0_312 : mFetch 0 312 = some (.invokevirtual 28, 3, 125, 0, 1, 11) := by decide +kernel
theorem f0_315 : mFetch 0 315 = some (.aload_n 2, 1, 0, 0, 0, 0) := by decide +kernel
theorem f0_316 : mFetch 0 316 = some (.invokevirtual 31, 3, 205, 0, 1, 12) := by decide +kernel
theorem f0_319 : mFetch 0 319 = some (.if_icmp .eq 1116, 3, 1435, 0, 0, 0) := by decide +kernel
theorem f0_322 : mFetch 0 322 = some (.iconst 0, 1, 0, 0, 0, 0) := by decide +kernel
theorem f0_323 : mFetch 0 323 = some (.ireturn, 1, 0, 0, 0, 0) := by decide +kernel
theorem f0_324 : mFetch 0 324 = some (.aload_n 1, 1, 0, 0, 0, 0) := by decide +kernel
theorem f0_325 : mFetch 0 325 = some (.aload_n 0, 1, 0, 0, 0, 0) := by decide +kernel
theorem f0_326 : mFetch 0 326 = some (.iload_n 3, 1, 0, 0, 0, 0) := by decide +kernel
theorem f0_327 : mFetch 0 327 = some (.iconst 1, 1, 0, 0, 0, 0) := by decide +kernel
theorem f0_328 : mFetch 0 328 = some (.iadd, 1, 0, 0, 0, 0) := by decide +kernel
theorem f0_329 : mFetch 0 329 = some (.iaload, 1, 0, 0, 0, 0) := by decide +kernel
theorem f0_330 : mFetch 0 330 = some (.invokevirtual 32, 3, 126, 0, 2, 11) := by decide +kernel
theorem f0_333 : mFetch 0 333 = some (.aload_n 2, 1, 0, 0, 0, 0) := by decide +kernel
theorem f0_334 : mFetch 0 334 = some (.aload_n 0, 1, 0, 0, 0, 0) := by decide +kernel
theorem f0_335 : mFetch 0 335 = some (.iload_n 3, 1, 0, 0, 0, 0) := by decide +kernel
theorem f0_336 : mFetch 0 336 = some (.iconst 1, 1, 0, 0, 0, 0) := by decide +kernel
theorem f0_337 : mFetch 0 337 = some (.iadd, 1, 0, 0, 0, 0) := by decide +kernel
theorem f0_338 : mFetch 0 338 = some (.iaload, 1, 0, 0, 0, 0) := by decide +kernel
theorem f0_339 : mFetch 0 339 = some (.invokevirtual 35, 3, 228, 0, 2, 12) := by decide +kernel
theorem f0_342 : mFetch 0 342 = some (.if_icmp .eq 1093, 3, 1435, 0, 0, 0) := by decide +kernel
theorem f0_345 : mFetch 0 345 = some (.iconst 0, 1, 0, 0, 0, 0) := by decide +kernel
theorem f0_346 : mFetch 0 346 = some (.ireturn, 1, 0, 0, 0, 0) := by decide +kernel
theorem f0_347 : mFetch 0 347 = some (.aload_n 1, 1, 0, 0, 0, 0) := by decide +kernel
theorem f0_348 : mFetch 0 348 = some (.aload_n 0, 1, 0, 0, 0, 0) := by decide +kernel
theorem f0_349 : mFetch 0 349 = some (.iload_n 3, 1, 0, 0, 0, 0) := by decide +kernel
theorem f0_350 : mFetch 0 350 = some (.iconst 1, 1, 0, 0, 0, 0) := by decide +kernel
theorem f0_351 : mFetch 0 351 = some (.iadd, 1, 0, 0, 0, 0) := by decide +kernel
theorem f0_352 : mFetch 0 352 = some (.iaload, 1, 0, 0, 0, 0) := by decide +kernel
theorem f0_353 : mFetch 0 353 = some (.aload_n 0, 1, 0, 0, 0, 0) := by decide +kernel
theorem f0_354 : mFetch 0 354 = some (.iload_n 3, 1, 0, 0, 0, 0) := by decide +kernel
theorem f0_355 : mFetch 0 355 = some (.iconst 2, 1, 0, 0, 0, 0) := by decide +kernel
theorem f0_356 : mFetch 0 356 = some (.iadd, 1, 0, 0, 0, 0) := by decide +kernel
theorem f0_357 : mFetch 0 357 = some (.iaload, 1, 0, 0, 0, 0) := by decide +kernel
theorem f0_358 : mFetch 0 358 = some (.invokevirtual 36, 3, 127, 0, 3, 11) := by decide +kernel
theorem f0_361 : mFetch 0 361 = some (.aload_n 2, 1, 0, 0, 0, 0) := by decide +kernel
theorem f0_362 : mFetch 0 362 = some (.aload_n 0, 1, 0, 0, 0, 0) := by decide +kernel
theorem f0_363 : mFetch 0 363 = some (.iload_n 3, 1, 0, 0, 0, 0) := by decide +kernel
theorem f0_364 : mFetch 0 364 = some (.iconst 1, 1, 0, 0, 0, 0) := by decide +kernel
theorem f0_365 : mFetch 0 365 = some (.iadd, 1, 0, 0, 0, 0) := by decide +kernel
theorem f0_366 : mFetch 0 366 = some (.iaload, 1, 0, 0, 0, 0) := by decide +kernel
theorem f0_367 : mFetch 0 367 = some (.aload_n 0, 1, 0, 0, 0, 0) := by decide +kernel
theorem f0_368 : mFetch 0 368 = some (.iload_n 3, 1, 0, 0, 0, 0) := by decide +kernel
theorem f0_369 : mFetch 0 369 = some (.iconst 2, 1, 0, 0, 0, 0) := by decide +kernel
theorem f0_370 : mFetch 0 370 = some (.iadd, 1, 0, 0, 0, 0) := by decide +kernel
theorem f0_371 : mFetch 0 371 = some (.iaload, 1, 0, 0, 0, 0) := by decide +kernel
theorem f0_372 : mFetch 0 372 = some (.invokevirtual 40, 3, 229, 0, 3, 12) := by decide +kernel
theorem f0_375 : mFetch 0 375 = some (.if_icmp .eq 1060, 3, 1435, 0, 0, 0) := by decide +kernel
theorem f0_378 : mFetch 0 378 = some (.iconst 0, 1, 0, 0, 0, 0) := by decide +kernel
theorem f0_379 : mFetch 0 379 = some (.ireturn, 1, 0, 0, 0, 0) := by decide +kernel
theorem f0_380 : mFetch 0 380 = some (.aload_n 1, 1, 0, 0, 0, 0) := by decide +kernel
theorem f0_381 : mFetch 0 381 = some (.aload_n 0, 1, 0, 0, 0, 0) := by decide +kernel
theorem f0_382 : mFetch 0 382 = some (.iload_n 3, 1, 0, 0, 0, 0) := by decide +kernel
theorem f0_383 : mFetch 0 383 = some (.iconst 1, 1, 0, 0, 0, 0) := by decide +kernel
theorem f0_384 : mFetch 0 384 = some (.iadd, 1, 0, 0, 0, 0) := by decide +kernel
theorem f0_385 : mFetch 0 385 = some (.iaload, 1, 0, 0, 0, 0) := by decide +kernel
theorem f0_386 : mFetch 0 386 = some (.aload_n 0, 1, 0, 0, 0, 0) := by decide +kernel
theorem f0_387 : mFetch 0 387 = some (.iload_n 3, 1, 0, 0, 0, 0) := by decide +kernel
theorem f0_388 : mFetch 0 388 = some (.iconst 2, 1, 0, 0, 0, 0) := by decide +kernel
theorem f0_389 : mFetch 0 389 = some (.iadd, 1, 0, 0, 0, 0) := by decide +kernel
theorem f0_390 : mFetch 0 390 = some (.iaload, 1, 0, 0, 0, 0) := by decide +kernel
theorem f0_391 : mFetch 0 391 = some (.invokevirtual 41, 3, 128, 0, 3, 11) := by decide +kernel
theorem f0_394 : mFetch 0 394 = some (.aload_n 2, 1, 0, 0, 0, 0) := by decide +kernel
theorem f0_395 : mFetch 0 395 = some (.aload_n 0, 1, 0, 0, 0, 0) := by decide +kernel
theorem f0_396 : mFetch 0 396 = some (.iload_n 3, 1, 0, 0, 0, 0) := by decide +kernel
theorem f0_397 : mFetch 0 397 = some (.iconst 1, 1, 0, 0, 0, 0) := by decide +kernel
theorem f0_398 : mFetch 0 398 = some (.iadd, 1, 0, 0, 0, 0) := by decide +kernel
theorem f0_399 : mFetch 0 399 = some (.iaload, 1, 0, 0, 0, 0) := by decide +kernel
theorem f0_400 : mFetch 0 400 = some (.aload_n 0, 1, 0, 0, 0, 0) := by decide +kernel
theorem f0_401 : mFetch 0 401 = some (.iload_n 3, 1, 0, 0, 0, 0) := by decide +kernel
theorem f0_402 : mFetch 0 402 = some (.iconst 2, 1, 0, 0, 0, 0) := by decide +kernel
theorem f0_403 : mFetch 0 403 = some (.iadd, 1, 0, 0, 0, 0) := by decide +kernel
theorem f0_404 : mFetch 0 404 = some (.iaload, 1, 0, 0, 0, 0) := by decide +kernel
theorem f0_405 : mFetch 0 405 = some (.invokevirtual 44, 3, 230, 0, 3, 12) := by decide +kernel
theorem f0_408 : mFetch 0 408 = some (.if_icmp .eq 1027, 3, 1435, 0, 0, 0) := by decide +kernel
theorem f0_411 : mFetch 0 411 = some (.iconst 0, 1, 0, 0, 0, 0) := by decide +kernel
theorem f0_412 : mFetch 0 412 = some (.ireturn, 1, 0, 0, 0, 0) := by decide +kernel
theorem f0_413 : mFetch 0 413 = some (.aload_n 1, 1, 0, 0, 0, 0) := by decide +kernel
theorem f0_414 : mFetch 0 414 = some (.aload_n 0, 1, 0, 0, 0, 0) := by decide +kernel
theorem f0_415 : mFetch 0 415 = some (.iload_n 3, 1, 0, 0, 0, 0) := by decide +kernel
theorem f0_416 : mFetch 0 416 = some (.iconst 1, 1, 0, 0, 0, 0) := by decide +kernel
theorem f0_417 : mFetch 0 417 = some (.iadd, 1, 0, 0, 0, 0) := by decide +kernel
theorem f0_418 : mFetch 0 418 = some (.iaload, 1, 0, 0, 0, 0) := by decide +kernel
theorem f0_419 : mFetch 0 419 = some (.invokevirtual 45, 3, 129, 0, 2, 11) := by decide +kernel
theorem f0_422 : mFetch 0 422 = some (.aload_n 2, 1, 0, 0, 0, 0) := by decide +kernel
theorem f0_423 : mFetch 0 423 = some (.aload_n 0, 1, 0, 0, 0, 0) := by decide +kernel
theorem f0_424 : mFetch 0 424 = some (.iload_n 3, 1, 0, 0, 0, 0) := by decide +kernel
theorem f0_425 : mFetch 0 425 = some (.iconst 1, 1, 0, 0, 0, 0) := by decide +kernel
theorem f0_426 : mFetch 0 426 = some (.iadd, 1, 0, 0, 0, 0) := by decide +kernel
theorem f0_427 : mFetch 0 427 = some (.iaload, 1, 0, 0, 0, 0) := by decide +kernel
theorem f0_428 : mFetch 0 428 = some (.invokevirtual 48, 3, 231, 0, 2, 12) := by decide +kernel
theorem f0_431 : mFetch 0 431 = some (.if_icmp .eq 1004, 3, 1435, 0, 0, 0) := by decide +kernel
theorem f0_434 : mFetch 0 434 = some (.iconst 0, 1, 0, 0, 0, 0) := by decide +kernel
theorem f0_435 : mFetch 0 435 = some (.ireturn, 1, 0, 0, 0, 0) := by decide +kernel
theorem f0_436 : mFetch 0 436 = some (.aload_n 1, 1, 0, 0, 0, 0) := by decide +kernel
theorem f0_437 : mFetch 0 437 = some (.aload_n 0, 1, 0, 0, 0, 0) := by decide +kernel
theorem f0_438 : mFetch 0 438 = some (.iload_n 3, 1, 0, 0, 0, 0) := by decide +kernel
theorem f0_439 : mFetch 0 439 = some (.iconst 1, 1, 0, 0, 0, 0) := by decide +kernel
theorem f0_440 : mFetch 0 440 = some (.iadd, 1, 0, 0, 0, 0) := by decide +kernel
theorem f0_441 : mFetch 0 441 = some (.iaload, 1, 0, 0, 0, 0) := by decide +kernel
theorem f0_442 : mFetch 0 442 = some (.aload_n 0, 1, 0, 0, 0, 0) := by decide +kernel
theorem f0_443 : mFetch 0 443 = some (.iload_n 3, 1, 0, 0, 0, 0) := by decide +kernel
theorem f0_444 : mFetch 0 444 = some (.iconst 2, 1, 0, 0, 0, 0) := by decide +kernel
theorem f0_445 : mFetch 0 445 = some (.iadd, 1, 0, 0, 0, 0) := by decide +kernel
theorem f0_446 : mFetch 0 446 = some (.iaload, 1, 0, 0, 0, 0) := by decide +kernel
theorem f0_447 : mFetch 0 447 = some (.invokevirtual 49, 3, 130, 0, 3, 11) := by decide +kernel
theorem f0_450 : mFetch 0 450 = some (.aload_n 2, 1, 0, 0, 0, 0) := by decide +kernel
theorem f0_451 : mFetch 0 451 = some (.aload_n 0, 1, 0, 0, 0, 0) := by decide +kernel
theorem f0_452 : mFetch 0 452 = some (.iload_n 3, 1, 0, 0, 0, 0) := by decide +kernel
theorem f0_453 : mFetch 0 453 = some (.iconst 1, 1, 0, 0, 0, 0) := by decide +kernel
theorem f0_454 : mFetch 0 454 = some (.iadd, 1, 0, 0, 0, 0) := by decide +kernel
theorem f0_455 : mFetch 0 455 = some (.iaload, 1, 0, 0, 0, 0) := by decide +kernel
theorem f0_456 : mFetch 0 456 = some (.aload_n 0, 1, 0, 0, 0, 0) := by decide +kernel
theorem f0_457 : mFetch 0 457 = some (.iload_n 3, 1, 0, 0, 0, 0) := by decide +kernel
theorem f0_458 : mFetch 0 458 = some (.iconst 2, 1, 0, 0, 0, 0) := by decide +kernel
theorem f0_459 : mFetch 0 459 = some (.iadd, 1, 0, 0, 0, 0) := by decide +kernel
theorem f0_460 : mFetch 0 460 = some (.iaload, 1, 0, 0, 0, 0) := by decide +kernel
theorem f0_461 : mFetch 0 461 = some (.invokevirtual 52, 3, 232, 0, 3, 12) := by decide +kernel
theorem f0_464 : mFetch 0 464 = some (.if_icmp .eq 971, 3, 1435, 0, 0, 0) := by decide +kernel
theorem f0_467 : mFetch 0 467 = some (.iconst 0, 1, 0, 0, 0, 0) := by decide +kernel
theorem f0_468 : mFetch 0 468 = some (.ireturn, 1, 0, 0, 0, 0) := by decide +kernel
theorem f0_469 : mFetch 0 469 = some (.aload_n 1, 1, 0, 0, 0, 0) := by decide +kernel
theorem f0_470 : mFetch 0 470 = some (.invokevirtual 53, 3, 131, 0, 1, 11) := by decide +kernel
theorem f0_473 : mFetch 0 473 = some (.aload_n 2, 1, 0, 0, 0, 0) := by decide +kernel
theorem f0_474 : mFetch 0 474 = some (.invokevirtual 56, 3, 255, 0, 1, 12) := by decide +kernel
theorem f0_477 : mFetch 0 477 = some (.if_icmp .eq 958, 3, 1435, 0, 0, 0) := by decide +kernel
theorem f0_480 : mFetch 0 480 = some (.iconst 0, 1, 0, 0, 0, 0) := by decide +kernel
theorem f0_481 : mFetch 0 481 = some (.ireturn, 1, 0, 0, 0, 0) := by decide +kernel
theorem f0_482 : mFetch 0 482 = some (.aload_n 1, 1, 0, 0, 0, 0) := by decide +kernel
theorem f0_483 : mFetch 0 483 = some (.aload_n 0, 1, 0, 0, 0, 0) := by decide +kernel
theorem f0_484 : mFetch 0 484 = some (.iload_n 3, 1, 0, 0, 0, 0) := by decide +kernel
theorem f0_485 : mFetch 0 485 = some (.iconst 1, 1, 0, 0, 0, 0) := by decide +kernel
theorem f0_486 : mFetch 0 486 = some (.iadd, 1, 0, 0, 0, 0) := by decide +kernel
theorem f0_487 : mFetch 0 487 = some (.iaload, 1, 0, 0, 0, 0) := by decide +kernel
theorem f0_488 : mFetch 0 488 = some (.invokevirtual 57, 3, 132, 0, 2, 11) := by decide +kernel
theorem f0_491 : mFetch 0 491 = some (.aload_n 2, 1, 0, 0, 0, 0) := by decide +kernel
theorem f0_492 : mFetch 0 492 = some (.aload_n 0, 1, 0, 0, 0, 0) := by decide +kernel
theorem f0_493 : mFetch 0 493 = some (.iload_n 3, 1, 0, 0, 0, 0) := by decide +kernel
theorem f0_494 : mFetch 0 494 = some (.iconst 1, 1, 0, 0, 0, 0) := by decide +kernel
theorem f0_495 : mFetch 0 495 = some (.iadd, 1, 0, 0, 0, 0) := by decide +kernel
theorem f0_496 : mFetch 0 496 = some (.iaload, 1, 0, 0, 0, 0) := by decide +kernel
theorem f0_497 : mFetch 0 497 = some (.invokevirtual 60, 3, 256, 0, 2, 12) := by decide +kernel
theorem f0_500 : mFetch 0 500 = some (.if_icmp .eq 935, 3, 1435, 0, 0, 0) := by decide +kernel
theorem f0_503 : mFetch 0 503 = some (.iconst 0, 1, 0, 0, 0, 0) := by decide +kernel
theorem f0_504 : mFetch 0 504 = some (.ireturn, 1, 0, 0, 0, 0) := by decide +kernel
theorem f0_505 : mFetch 0 505 = some (.aload_n 1, 1, 0, 0, 0, 0) := by decide +kernel
theorem f0_506 : mFetch 0 506 = some (.aload_n 0, 1, 0, 0, 0, 0) := by decide +kernel
theorem f0_507 : mFetch 0 507 = some (.iload_n 3, 1, 0, 0, 0, 0) := by decide +kernel
theorem f0_508 : mFetch 0 508 = some (.iconst 1, 1, 0, 0, 0, 0) := by decide +kernel
theorem f0_509 : mFetch 0 509 = some (.iadd, 1, 0, 0, 0, 0) := by decide +kernel
theorem f0_510 : mFetch 0 510 = some (.iaload, 1, 0, 0, 0, 0) := by decide +kernel
theorem f0_511 : mFetch 0 511 = some (.invokevirtual 61, 3, 133, 0, 2, 11) := by decide +kernel
theorem f0_514 : mFetch 0 514 = some (.aload_n 2, 1, 0, 0, 0, 0) := by decide +kernel
theorem f0_515 : mFetch 0 515 = some (.aload_n 0, 1, 0, 0, 0, 0) := by decide +kernel
theorem f0_516 : mFetch 0 516 = some (.iload_n 3, 1, 0, 0, 0, 0) := by decide +kernel
theorem f0_517 : mFetch 0 517 = some (.iconst 1, 1, 0, 0, 0, 0) := by decide +kernel
theorem f0_518 : mFetch 0 518 = some (.iadd, 1, 0, 0, 0, 0) := by decide +kernel
theorem f0_519 : mFetch 0 519 = some (.iaload, 1, 0, 0, 0, 0) := by decide +kernel
theorem f0_520 : mFetch 0 520 = some (.invokevirtual 64, 3, 257, 0, 2, 12) := by decide +kernel
theorem f0_523 : mFetch 0 523 = some (.if_icmp .eq 912, 3, 1435, 0, 0, 0) := by decide +kernel
theorem f0_526 : mFetch 0 526 = some (.iconst 0, 1, 0, 0, 0, 0) := by decide +kernel
theorem f0_527 : mFetch 0 527 = some (.ireturn, 1, 0, 0, 0, 0) := by decide +kernel
theorem f0_528 : mFetch 0 528 = some (.aload_n 1, 1, 0, 0, 0, 0) := by decide +kernel
theorem f0_529 : mFetch 0 529 = some (.aload_n 0, 1, 0, 0, 0, 0) := by decide +kernel
theorem f0_530 : mFetch 0 530 = some (.iload_n 3, 1, 0, 0, 0, 0) := by decide +kernel
theorem f0_531 : mFetch 0 531 = some (.iconst 1, 1, 0, 0, 0, 0) := by decide +kernel
theorem f0_532 : mFetch 0 532 = some (.iadd, 1, 0, 0, 0, 0) := by decide +kernel
theorem f0_533 : mFetch 0 533 = some (.iaload, 1, 0, 0, 0, 0) := by decide +kernel
theorem f0_534 : mFetch 0 534 = some (.aload_n 0, 1, 0, 0, 0, 0) := by decide +kernel
theorem f0_535 : mFetch 0 535 = some (.iload_n 3, 1, 0, 0, 0, 0) := by decide +kernel
theorem f0_536 : mFetch 0 536 = some (.iconst 2, 1, 0, 0, 0, 0) := by decide +kernel
theorem f0_537 : mFetch 0 537 = some (.iadd, 1, 0, 0, 0, 0) := by decide +kernel
theorem f0_538 : mFetch 0 538 = some (.iaload, 1, 0, 0, 0, 0) := by decide +kernel
theorem f0_539 : mFetch 0 539 = some (.invokevirtual 65, 3, 134, 0, 3, 11) := by decide +kernel
theorem f0_542 : mFetch 0 542 = some (.aload_n 2, 1, 0, 0, 0, 0) := by decide +kernel
theorem f0_543 : mFetch 0 543 = some (.aload_n 0, 1, 0, 0, 0, 0) := by decide +kernel
theorem f0_544 : mFetch 0 544 = some (.iload_n 3, 1, 0, 0, 0, 0) := by decide +kernel
theorem f0_545 : mFetch 0 545 = some (.iconst 1, 1, 0, 0, 0, 0) := by decide +kernel
theorem f0_546 : mFetch 0 546 = some (.iadd, 1, 0, 0, 0, 0) := by decide +kernel
theorem f0_547 : mFetch 0 547 = some (.iaload, 1, 0, 0, 0, 0) := by decide +kernel
theorem f0_548 : mFetch 0 548 = some (.aload_n 0, 1, 0, 0, 0, 0) := by decide +kernel
theorem f0_549 : mFetch 0 549 = some (.iload_n 3, 1, 0, 0, 0, 0) := by decide +kernel
theorem f0_550 : mFetch 0 550 = some (.iconst 2, 1, 0, 0, 0, 0) := by decide +kernel
theorem f0_551 : mFetch 0 551 = some (.iadd, 1, 0, 0, 0, 0) := by decide +kernel
theorem f0_552 : mFetch 0 552 = some (.iaload, 1, 0, 0, 0, 0) := by decide +kernel
theorem f0_553 : mFetch 0 553 = some (.invokevirtual 68, 3, 259, 0, 3, 12) := by decide +kernel
theorem f0_556 : mFetch 0 556 = some (.if_icmp .eq 879, 3, 1435, 0, 0, 0) := by decide +kernel
theorem f0_559 : mFetch 0 559 = some (.iconst 0, 1, 0, 0, 0, 0) := by decide +kernel
theorem f0_560 : mFetch 0 560 = some (.ireturn, 1, 0, 0, 0, 0) := by decide +kernel
theorem f0_561 : mFetch 0 561 = some (.aload_n 1, 1, 0, 0, 0, 0) := by decide +kernel
theorem f0_562 : mFetch 0 562 = some (.aload_n 0, 1, 0, 0, 0, 0) := by decide +kernel
theorem f0_563 : mFetch 0 563 = some (.iload_n 3, 1, 0, 0, 0, 0) := by decide +kernel
theorem f0_564 : mFetch 0 564 = some (.iconst 1, 1, 0, 0, 0, 0) := by decide +kernel
theorem f0_565 : mFetch 0 565 = some (.iadd, 1, 0, 0, 0, 0) := by decide +kernel
theorem f0_566 : mFetch 0 566 = some (.iaload, 1, 0, 0, 0, 0) := by decide +kernel
theorem f0_567 : mFetch 0 567 = some (.aload_n 0, 1, 0, 0, 0, 0) := by decide +kernel
theorem f0_568 : mFetch 0 568 = some (.iload_n 3, 1, 0, 0, 0, 0) := by decide +kernel
theorem f0_569 : mFetch 0 569 = some (.iconst 2, 1, 0, 0, 0, 0) := by decide +kernel
theorem f0_570 : mFetch 0 570 = some (.iadd, 1, 0, 0, 0, 0) := by decide +kernel
theorem f0_571 : mFetch 0 571 = some (.iaload, 1, 0, 0, 0, 0) := by decide +kernel
theorem f0_572 : mFetch 0 572 = some (.invokevirtual 69, 3, 135, 0, 3, 11) := by decide +kernel
theorem f0_575 : mFetch 0 575 = some (.aload_n 2, 1, 0, 0, 0, 0) := by decide +kernel
theorem f0_576 : mFetch 0 576 = some (.aload_n 0, 1, 0, 0, 0, 0) := by decide +kernel
theorem f0_577 : mFetch 0 577 = some (.iload_n 3, 1, 0, 0, 0, 0) := by decide +kernel
theorem f0_578 : mFetch 0 578 = some (.iconst 1, 1, 0, 0, 0, 0) := by decide +kernel
theorem f0_579 : mFetch 0 579 = some (.iadd, 1, 0, 0, 0, 0) := by decide +kernel
theorem f0_580 : mFetch 0 580 = some (.iaload, 1, 0, 0, 0, 0) := by decide +kernel
theorem f0_581 : mFetch 0 581 = some (.aload_n 0, 1, 0, 0, 0, 0) := by decide +kernel
theorem f0_582 : mFetch 0 582 = some (.iload_n 3, 1, 0, 0, 0, 0) := by decide +kernel
theorem f0_583 : mFetch 0 583 = some (.iconst 2, 1, 0, 0, 0, 0) := by decide +kernel
theorem f0_584 : mFetch 0 584 = some (.iadd, 1, 0, 0, 0, 0) := by decide +kernel
theorem f0_585 : mFetch 0 585 = some (.iaload, 1, 0, 0, 0, 0) := by decide +kernel
theorem f0_586 : mFetch 0 586 = some (.invokevirtual 72, 3, 260, 0, 3, 12) := by decide +kernel
theorem f0_589 : mFetch 0 589 = some (.if_icmp .eq 846, 3, 1435, 0, 0, 0) := by decide +kernel
theorem f0_592 : mFetch 0 592 = some (.iconst 0, 1, 0, 0, 0, 0) := by decide +kernel
theorem f0_593 : mFetch 0 593 = some (.ireturn, 1, 0, 0, 0, 0) := by decide +kernel
theorem f0_594 : mFetch 0 594 = some (.aload_n 1, 1, 0, 0, 0, 0) := by decide +kernel
theorem f0_595 : mFetch 0 595 = some (.invokevirtual 73, 3, 136, 0, 1, 11) := by decide +kernel
theorem f0_598 : mFetch 0 598 = some (.aload_n 2, 1, 0, 0, 0, 0) := by decide +kernel
theorem f0_599 : mFetch 0 599 = some (.invokevirtual 76, 3, 254, 0, 1, 12) := by decide +kernel
theorem f0_602 : mFetch 0 602 = some (.if_icmp .eq 833, 3, 1435, 0, 0, 0) := by decide +kernel
theorem f0_605 : mFetch 0 605 = some (.iconst 0, 1, 0, 0, 0, 0) := by decide +kernel
theorem f0_606 : mFetch 0 606 = some (.ireturn, 1, 0, 0, 0, 0) := by decide +kernel
theorem f0_607 : mFetch 0 607 = some (.aload_n 1, 1, 0, 0, 0, 0) := by decide +kernel
theorem f0_608 : mFetch 0 608 = some (.aload_n 0, 1, 0, 0, 0, 0) := by decide +kernel
theorem f0_609 : mFetch 0 609 = some (.iload_n 3, 1, 0, 0, 0, 0) := by decide +kernel
theorem f0_610 : mFetch 0 610 = some (.iconst 1, 1, 0, 0, 0, 0) := by decide +kernel
theorem f0_611 : mFetch 0 611 = some (.iadd, 1, 0, 0, 0, 0) := by decide +kernel
theorem f0_612 : mFetch 0 612 = some (.iaload, 1, 0, 0, 0, 0) := by decide +kernel
theorem f0_613 : mFetch 0 613 = some (.aload_n 0, 1, 0, 0, 0, 0) := by decide +kernel
theorem f0_614 : mFetch 0 614 = some (.iload_n 3, 1, 0, 0, 0, 0) := by decide +kernel
theorem f0_615 : mFetch 0 615 = some (.iconst 2, 1, 0, 0, 0, 0) := by decide +kernel
theorem f0_616 : mFetch 0 616 = some (.iadd, 1, 0, 0, 0, 0) := by decide +kernel
theorem f0_617 : mFetch 0 617 = some (.iaload, 1, 0, 0, 0, 0) := by decide +kernel
theorem f0_618 : mFetch 0 618 = some (.invokevirtual 77, 3, 137, 0, 3, 11) := by decide +kernel
theorem f0_621 : mFetch 0 621 = some (.aload_n 2, 1, 0, 0, 0, 0) := by decide +kernel
theorem f0_622 : mFetch 0 622 = some (.aload_n 0, 1, 0, 0, 0, 0) := by decide +kernel
theorem f0_623 : mFetch 0 623 = some (.iload_n 3, 1, 0, 0, 0, 0) := by decide +kernel
theorem f0_624 : mFetch 0 624 = some (.iconst 1, 1, 0, 0, 0, 0) := by decide +kernel
theorem f0_625 : mFetch 0 625 = some (.iadd, 1, 0, 0, 0, 0) := by decide +kernel
theorem f0_626 : mFetch 0 626 = some (.iaload, 1, 0, 0, 0, 0) := by decide +kernel
theorem f0_627 : mFetch 0 627 = some (.aload_n 0, 1, 0, 0, 0, 0) := by decide +kernel
theorem f0_628 : mFetch 0 628 = some (.iload_n 3, 1, 0, 0, 0, 0) := by decide +kernel
theorem f0_629 : mFetch 0 629 = some (.iconst 2, 1, 0, 0, 0, 0) := by decide +kernel
theorem f0_630 : mFetch 0 630 = some (.iadd, 1, 0, 0, 0, 0) := by decide +kernel
theorem f0_631 : mFetch 0 631 = some (.iaload, 1, 0, 0, 0, 0) := by decide +kernel
theorem f0_632 : mFetch 0 632 = some (.invokevirtual 80, 3, 261, 0, 3, 12) := by decide +kernel
theorem f0_635 : mFetch 0 635 = some (.if_icmp .eq 800, 3, 1435, 0, 0, 0) := by decide +kernel
theorem f0_638 : mFetch 0 638 = some (.iconst 0, 1, 0, 0, 0, 0) := by decide +kernel
theorem f0_639 : mFetch 0 639 = some (.ireturn, 1, 0, 0, 0, 0) := by decide +kernel
theorem f0_640 : mFetch 0 640 = some (.aload_n 1, 1, 0, 0, 0, 0) := by decide +kernel
theorem f0_641 : mFetch 0 641 = some (.aload_n 0, 1, 0, 0, 0, 0) := by decide +kernel
theorem f0_642 : mFetch 0 642 = some (.iload_n 3, 1, 0, 0, 0, 0) := by decide +kernel
theorem f0_643 : mFetch 0 643 = some (.iconst 1, 1, 0, 0, 0, 0) := by decide +kernel
theorem f0_644 : mFetch 0 644 = some (.iadd, 1, 0, 0, 0, 0) := by decide +kernel
theorem f0_645 : mFetch 0 645 = some (.iaload, 1, 0, 0, 0, 0) := by decide +kernel
theorem f0_646 : mFetch 0 646 = some (.aload_n 0, 1, 0, 0, 0, 0) := by decide +kernel
theorem f0_647 : mFetch 0 647 = some (.iload_n 3, 1, 0, 0, 0, 0) := by decide +kernel
theorem f0_648 : mFetch 0 648 = some (.iconst 2, 1, 0, 0, 0, 0) := by decide +kernel
theorem f0_649 : mFetch 0 649 = some (.iadd, 1, 0, 0, 0, 0) := by decide +kernel
theorem f0_650 : mFetch 0 650 = some (.iaload, 1, 0, 0, 0, 0) := by decide +kernel
theorem f0_651 : mFetch 0 651 = some (.invokevirtual 81, 3, 138, 0, 3, 11) := by decide +kernel
theorem f0_654 : mFetch 0 654 = some (.aload_n 2, 1, 0, 0, 0, 0) := by decide +kernel
theorem f0_655 : mFetch 0 655 = some (.aload_n 0, 1, 0, 0, 0, 0) := by decide +kernel
theorem f0_656 : mFetch 0 656 = some (.iload_n 3, 1, 0, 0, 0, 0) := by decide +kernel
theorem f0_657 : mFetch 0 657 = some (.iconst 1, 1, 0, 0, 0, 0) := by decide +kernel
theorem f0_658 : mFetch 0 658 = some (.iadd, 1, 0, 0, 0, 0) := by decide +kernel
theorem f0_659 : mFetch 0 659 = some (.iaload, 1, 0, 0, 0, 0) := by decide +kernel
theorem f0_660 : mFetch 0 660 = some (.aload_n 0, 1, 0, 0, 0, 0) := by decide +kernel
theorem f0_661 : mFetch 0 661 = some (.iload_n 3, 1, 0, 0, 0, 0) := by decide +kernel
theorem f0_662 : mFetch 0 662 = some (.iconst 2, 1, 0, 0, 0, 0) := by decide +kernel
theorem f0_663 : mFetch 0 663 = some (.iadd, 1, 0, 0, 0, 0) := by decide +kernel
theorem f0_664 : mFetch 0 664 = some (.iaload, 1, 0, 0, 0, 0) := by decide +kernel
theorem f0_665 : mFetch 0 665 = some (.invokevirtual 84, 3, 262, 0, 3, 12) := by decide +kernel
theorem f0_668 : mFetch 0 668 = some (.if_icmp .eq 767, 3, 1435, 0, 0, 0) := by decide +kernel
theorem f0_671 : mFetch 0 671 = some (.iconst 0, 1, 0, 0, 0, 0) := by decide +kernel
theorem f0_672 : mFetch 0 672 = some (.ireturn, 1, 0, 0, 0, 0) := by decide +kernel
theorem f0_673 : mFetch 0 673 = some (.aload_n 1, 1, 0, 0, 0, 0) := by decide +kernel
theorem f0_674 : mFetch 0 674 = some (.aload_n 0, 1, 0, 0, 0, 0) := by decide +kernel
theorem f0_675 : mFetch 0 675 = some (.iload_n 3, 1, 0, 0, 0, 0) := by decide +kernel
theorem f0_676 : mFetch 0 676 = some (.iconst 1, 1, 0, 0, 0, 0) := by decide +kernel
theorem f0_677 : mFetch 0 677 = some (.iadd, 1, 0, 0, 0, 0) := by decide +kernel
theorem f0_678 : mFetch 0 678 = some (.iaload, 1, 0, 0, 0, 0) := by decide +kernel
theorem f0_679 : mFetch 0 679 = some (.invokevirtual 85, 3, 139, 0, 2, 11) := by decide +kernel
theorem f0_682 : mFetch 0 682 = some (.aload_n 2, 1, 0, 0, 0, 0) := by decide +kernel
theorem f0_683 : mFetch 0 683 = some (.aload_n 0, 1, 0, 0, 0, 0) := by decide +kernel
theorem f0_684 : mFetch 0 684 = some (.iload_n 3, 1, 0, 0, 0, 0) := by decide +kernel
theorem f0_685 : mFetch 0 685 = some (.iconst 1, 1, 0, 0, 0, 0) := by decide +kernel
theorem f0_686 : mFetch 0 686 = some (.iadd, 1, 0, 0, 0, 0) := by decide +kernel
theorem f0_687 : mFetch 0 687 = some (.iaload, 1, 0, 0, 0, 0) := by decide +kernel
theorem f0_688 : mFetch 0 688 = some (.invokevirtual 88, 3, 263, 0, 2, 12) := by decide +kernel
theorem f0_691 : mFetch 0 691 = some (.if_icmp .eq 744, 3, 1435, 0, 0, 0) := by decide +kernel
theorem f0_694 : mFetch 0 694 = some (.iconst 0, 1, 0, 0, 0, 0) := by decide +kernel
theorem f0_695 : mFetch 0 695 = some (.ireturn, 1, 0, 0, 0, 0) := by decide +kernel
theorem f0_696 : mFetch 0 696 = some (.aload_n 1, 1, 0, 0, 0, 0) := by decide +kernel
theorem f0_697 : mFetch 0 697 = some (.aload_n 0, 1, 0, 0, 0, 0) := by decide +kernel
theorem f0_698 : mFetch 0 698 = some (.iload_n 3, 1, 0, 0, 0, 0) := by decide +kernel
theorem f0_699 : mFetch 0 699 = some (.iconst 1, 1, 0, 0, 0, 0) := by decide +kernel
theorem f0_700 : mFetch 0 700 = some (.iadd, 1, 0, 0, 0, 0) := by decide +kernel
theorem f0_701 : mFetch 0 701 = some (.iaload, 1, 0, 0, 0, 0) := by decide +kernel
theorem f0_702 : mFetch 0 702 = some (.aload_n 0, 1, 0, 0, 0, 0) := by decide +kernel
theorem f0_703 : mFetch 0 703 = some (.iload_n 3, 1, 0, 0, 0, 0) := by decide +kernel
theorem f0_704 : mFetch 0 704 = some (.iconst 2, 1, 0, 0, 0, 0) := by decide +kernel
theorem f0_705 : mFetch 0 705 = some (.iadd, 1, 0, 0, 0, 0) := by decide +kernel
theorem f0_706 : mFetch 0 706 = some (.iaload, 1, 0, 0, 0, 0) := by decide +kernel
theorem f0_707 : mFetch 0 707 = some (.invokevirtual 89, 3, 140, 0, 3, 11) := by decide +kernel
theorem f0_710 : mFetch 0 710 = some (.aload_n 2, 1, 0, 0, 0, 0) := by decide +kernel
theorem f0_711 : mFetch 0 711 = some (.aload_n 0, 1, 0, 0, 0, 0) := by decide +kernel
theorem f0_712 : mFetch 0 712 = some (.iload_n 3, 1, 0, 0, 0, 0) := by decide +kernel
theorem f0_713 : mFetch 0 713 = some (.iconst 1, 1, 0, 0, 0, 0) := by decide +kernel
theorem f0_714 : mFetch 0 714 = some (.iadd, 1, 0, 0, 0, 0) := by decide +kernel
theorem f0_715 : mFetch 0 715 = some (.iaload, 1, 0, 0, 0, 0) := by decide +kernel
theorem f0_716 : mFetch 0 716 = some (.aload_n 0, 1, 0, 0, 0, 0) := by decide +kernel
theorem f0_717 : mFetch 0 717 = some (.iload_n 3, 1, 0, 0, 0, 0) := by decide +kernel
theorem f0_718 : mFetch 0 718 = some (.iconst 2, 1, 0, 0, 0, 0) := by decide +kernel
theorem f0_719 : mFetch 0 719 = some (.iadd, 1, 0, 0, 0, 0) := by decide +kernel
theorem f0_720 : mFetch 0 720 = some (.iaload, 1, 0, 0, 0, 0) := by decide +kernel
theorem f0_721 : mFetch 0 721 = some (.invokevirtual 92, 3, 264, 0, 3, 12) := by decide +kernel
theorem f0_724 : mFetch 0 724 = some (.if_icmp .eq 711, 3, 1435, 0, 0, 0) := by decide +kernel
theorem f0_727 : mFetch 0 727 = some (.iconst 0, 1, 0, 0, 0, 0) := by decide +kernel
theorem f0_728 : mFetch 0 728 = some (.ireturn, 1, 0, 0, 0, 0) := by decide +kernel
theorem f0_729 : mFetch 0 729 = some (.aload_n 1, 1, 0, 0, 0, 0) := by decide +kernel
theorem f0_730 : mFetch 0 730 = some (.aload_n 0, 1, 0, 0, 0, 0) := by decide +kernel
theorem f0_731 : mFetch 0 731 = some (.iload_n 3, 1, 0, 0, 0, 0) := by decide +kernel
theorem f0_732 : mFetch 0 732 = some (.iconst 1, 1, 0, 0, 0, 0) := by decide +kernel
theorem f0_733 : mFetch 0 733 = some (.iadd, 1, 0, 0, 0, 0) := by decide +kernel
theorem f0_734 : mFetch 0 734 = some (.iaload, 1, 0, 0, 0, 0) := by decide +kernel
theorem f0_735 : mFetch 0 735 = some (.aload_n 0, 1, 0, 0, 0, 0) := by decide +kernel
theorem f0_736 : mFetch 0 736 = some (.iload_n 3, 1, 0, 0, 0, 0) := by decide +kernel
theorem f0_737 : mFetch 0 737 = some (.iconst 2, 1, 0, 0, 0, 0) := by decide +kernel
theorem f0_738 : mFetch 0 738 = some (.iadd, 1, 0, 0, 0, 0) := by decide +kernel
theorem f0_739 : mFetch 0 739 = some (.iaload, 1, 0, 0, 0, 0) := by decide +kernel
theorem f0_740 : mFetch 0 740 = some (.invokevirtual 93, 3, 141, 0, 3, 11) := by decide +kernel
theorem f0_743 : mFetch 0 743 = some (.aload_n 2, 1, 0, 0, 0, 0) := by decide +kernel
theorem f0_744 : mFetch 0 744 = some (.aload_n 0, 1, 0, 0, 0, 0) := by decide +kernel
theorem f0_745 : mFetch 0 745 = some (.iload_n 3, 1, 0, 0, 0, 0) := by decide +kernel
theorem f0_746 : mFetch 0 746 = some (.iconst 1, 1, 0, 0, 0, 0) := by decide +kernel
theorem f0_747 : mFetch 0 747 = some (.iadd, 1, 0, 0, 0, 0) := by decide +kernel
theorem f0_748 : mFetch 0 748 = some (.iaload, 1, 0, 0, 0, 0) := by decide +kernel
theorem f0_749 : mFetch 0 749 = some (.aload_n 0, 1, 0, 0, 0, 0) := by decide +kernel
theorem f0_750 : mFetch 0 750 = some (.iload_n 3, 1, 0, 0, 0, 0) := by decide +kernel
theorem f0_751 : mFetch 0 751 = some (.iconst 2, 1, 0, 0, 0, 0) := by decide +kernel
theorem f0_752 : mFetch 0 752 = some (.iadd, 1, 0, 0, 0, 0) := by decide +kernel
theorem f0_753 : mFetch 0 753 = some (.iaload, 1, 0, 0, 0, 0) := by decide +kernel
theorem f0_754 : mFetch 0 754 = some (.invokevirtual 96, 3, 266, 0, 3, 12) := by decide +kernel
theorem f0_757 : mFetch 0 757 = some (.if_icmp .eq 678, 3, 1435, 0, 0, 0) := by decide +kernel
theorem f0_760 : mFetch 0 760 = some (.iconst 0, 1, 0, 0, 0, 0) := by decide +kernel
theorem f0_761 : mFetch 0 761 = some (.ireturn, 1, 0, 0, 0, 0) := by decide +kernel
theorem f0_762 : mFetch 0 762 = some (.aload_n 1, 1, 0, 0, 0, 0) := by decide +kernel
theorem f0_763 : mFetch 0 763 = some (.aload_n 0, 1, 0, 0, 0, 0) := by decide +kernel
theorem f0_764 : mFetch 0 764 = some (.iload_n 3, 1, 0, 0, 0, 0) := by decide +kernel
theorem f0_765 : mFetch 0 765 = some (.iconst 1, 1, 0, 0, 0, 0) := by decide +kernel
theorem f0_766 : mFetch 0 766 = some (.iadd, 1, 0, 0, 0, 0) := by decide +kernel
theorem f0_767 : mFetch 0 767 = some (.iaload, 1, 0, 0, 0, 0) := by decide +kernel
theorem f0_768 : mFetch 0 768 = some (.aload_n 0, 1, 0, 0, 0, 0) := by decide +kernel
theorem f0_769 : mFetch 0 769 = some (.iload_n 3, 1, 0, 0, 0, 0) := by decide +kernel
theorem f0_770 : mFetch 0 770 = some (.iconst 2, 1, 0, 0, 0, 0) := by decide +kernel
theorem f0_771 : mFetch 0 771 = some (.iadd, 1, 0, 0, 0, 0) := by decide +kernel
theorem f0_772 : mFetch 0 772 = some (.iaload, 1, 0, 0, 0, 0) := by decide +kernel
theorem f0_773 : mFetch 0 773 = some (.invokevirtual 97, 3, 142, 0, 3, 11) := by decide +kernel
theorem f0_776 : mFetch 0 776 = some (.aload_n 2, 1, 0, 0, 0, 0) := by decide +kernel
theorem f0_777 : mFetch 0 777 = some (.aload_n 0, 1, 0, 0, 0, 0) := by decide +kernel
theorem f0_778 : mFetch 0 778 = some (.iload_n 3, 1, 0, 0, 0, 0) := by decide +kernel
theorem f0_779 : mFetch 0 779 = some (.iconst 1, 1, 0, 0, 0, 0) := by decide +kernel
theorem f0_780 : mFetch 0 780 = some (.iadd, 1, 0, 0, 0, 0) := by decide +kernel
theorem f0_781 : mFetch 0 781 = some (.iaload, 1, 0, 0, 0, 0) := by decide +kernel
theorem f0_782 : mFetch 0 782 = some (.aload_n 0, 1, 0, 0, 0, 0) := by decide +kernel
theorem f0_783 : mFetch 0 783 = some (.iload_n 3, 1, 0, 0, 0, 0) := by decide +kernel
theorem f0_784 : mFetch 0 784 = some (.iconst 2, 1, 0, 0, 0, 0) := by decide +kernel
theorem f0_785 : mFetch 0 785 = some (.iadd, 1, 0, 0, 0, 0) := by decide +kernel
theorem f0_786 : mFetch 0 786 = some (.iaload, 1, 0, 0, 0, 0) := by decide +kernel
theorem f0_787 : mFetch 0 787 = some (.invokevirtual 100, 3, 269, 0, 3, 12) := by decide +kernel
theorem f0_790 : mFetch 0 790 = some (.if_icmp .eq 645, 3, 1435, 0, 0, 0) := by decide +kernel
theorem f0_793 : mFetch 0 793 = some (.iconst 0, 1, 0, 0, 0, 0) := by decide +kernel
theorem f0_794 : mFetch 0 794 = some (.ireturn, 1, 0, 0, 0, 0) := by decide +kernel
theorem f0_795 : mFetch 0 795 = some (.aload_n 1, 1, 0, 0, 0, 0) := by decide +kernel
theorem f0_796 : mFetch 0 796 = some (.aload_n 0, 1, 0, 0, 0, 0) := by decide +kernel
theorem f0_797 : mFetch 0 797 = some (.iload_n 3, 1, 0, 0, 0, 0) := by decide +kernel
theorem f0_798 : mFetch 0 798 = some (.iconst 1, 1, 0, 0, 0, 0) := by decide +kernel
theorem f0_799 : mFetch 0 799 = some (.iadd, 1, 0, 0, 0, 0) := by decide +kernel
theorem f0_800 : mFetch 0 800 = some (.iaload, 1, 0, 0, 0, 0) := by decide +kernel
theorem f0_801 : mFetch 0 801 = some (.aload_n 0, 1, 0, 0, 0, 0) := by decide +kernel
theorem f0_802 : mFetch 0 802 = some (.iload_n 3, 1, 0, 0, 0, 0) := by decide +kernel
theorem f0_803 : mFetch 0 803 = some (.iconst 2, 1, 0, 0, 0, 0) := by decide +kernel
theorem f0_804 : mFetch 0 804 = some (.iadd, 1, 0, 0, 0, 0) := by decide +kernel
theorem f0_805 : mFetch 0 805 = some (.iaload, 1, 0, 0, 0, 0) := by decide +kernel
theorem f0_806 : mFetch 0 806 = some (.aload_n 0, 1, 0, 0, 0, 0) := by decide +kernel
theorem f0_807 : mFetch 0 807 = some (.iload_n 3, 1, 0, 0, 0, 0) := by decide +kernel
theorem f0_808 : mFetch 0 808 = some (.iconst 3, 1, 0, 0, 0, 0) := by decide +kernel
theorem f0_809 : mFetch 0 809 = some (.iadd, 1, 0, 0, 0, 0) := by decide +kernel
theorem f0_810 : mFetch 0 810 = some (.iaload, 1, 0, 0, 0, 0) := by decide +kernel
theorem f0_811 : mFetch 0 811 = some (.invokevirtual 101, 3, 143, 0, 4, 11) := by decide +kernel
theorem f0_814 : mFetch 0 814 = some (.aload_n 2, 1, 0, 0, 0, 0) := by decide +kernel
theorem f0_815 : mFetch 0 815 = some (.aload_n 0, 1, 0, 0, 0, 0) := by decide +kernel
theorem f0_816 : mFetch 0 816 = some (.iload_n 3, 1, 0, 0, 0, 0) := by decide +kernel
theorem f0_817 : mFetch 0 817 = some (.iconst 1, 1, 0, 0, 0, 0) := by decide +kernel
theorem f0_818 : mFetch 0 818 = some (.iadd, 1, 0, 0, 0, 0) := by decide +kernel
theorem f0_819 : mFetch 0 819 = some (.iaload, 1, 0, 0, 0, 0) := by decide +kernel
theorem f0_820 : mFetch 0 820 = some (.aload_n 0, 1, 0, 0, 0, 0) := by decide +kernel
theorem f0_821 : mFetch 0 821 = some (.iload_n 3, 1, 0, 0, 0, 0) := by decide +kernel
theorem f0_822 : mFetch 0 822 = some (.iconst 2, 1, 0, 0, 0, 0) := by decide +kernel
theorem f0_823 : mFetch 0 823 = some (.iadd, 1, 0, 0, 0, 0) := by decide +kernel
theorem f0_824 : mFetch 0 824 = some (.iaload, 1, 0, 0, 0, 0) := by decide +kernel
theorem f0_825 : mFetch 0 825 = some (.aload_n 0, 1, 0, 0, 0, 0) := by decide +kernel
theorem f0_826 : mFetch 0 826 = some (.iload_n 3, 1, 0, 0, 0, 0) := by decide +kernel
theorem f0_827 : mFetch 0 827 = some (.iconst 3, 1, 0, 0, 0, 0) := by decide +kernel
theorem f0_828 : mFetch 0 828 = some (.iadd, 1, 0, 0, 0, 0) := by decide +kernel
theorem f0_829 : mFetch 0 829 = some (.iaload, 1, 0, 0, 0, 0) := by decide +kernel
theorem f0_830 : mFetch 0 830 = some (.invokevirtual 105, 3, 270, 0, 4, 12) := by decide +kernel
theorem f0_833 : mFetch 0 833 = some (.if_icmp .eq 602, 3, 1435, 0, 0, 0) := by decide +kernel
theorem f0_836 : mFetch 0 836 = some (.iconst 0, 1, 0, 0, 0, 0) := by decide +kernel
theorem f0_837 : mFetch 0 837 = some (.ireturn, 1, 0, 0, 0, 0) := by decide +kernel
theorem f0_838 : mFetch 0 838 = some (.aload_n 1, 1, 0, 0, 0, 0) := by decide +kernel
theorem f0_839 : mFetch 0 839 = some (.aload_n 0, 1, 0, 0, 0, 0) := by decide +kernel
theorem f0_840 : mFetch 0 840 = some (.iload_n 3, 1, 0, 0, 0, 0) := by decide +kernel
theorem f0_841 : mFetch 0 841 = some (.iconst 1, 1, 0, 0, 0, 0) := by decide +kernel
theorem f0_842 : mFetch 0 842 = some (.iadd, 1, 0, 0, 0, 0) := by decide +kernel
theorem f0_843 : mFetch 0 843 = some (.iaload, 1, 0, 0, 0, 0) := by decide +kernel
theorem f0_844 : mFetch 0 844 = some (.aload_n 0, 1, 0, 0, 0, 0) := by decide +kernel
theorem f0_845 : mFetch 0 845 = some (.iload_n 3, 1, 0, 0, 0, 0) := by decide +kernel
theorem f0_846 : mFetch 0 846 = some (.iconst 2, 1, 0, 0, 0, 0) := by decide +kernel
theorem f0_847 : mFetch 0 847 = some (.iadd, 1, 0, 0, 0, 0) := by decide +kernel
theorem f0_848 : mFetch 0 848 = some (.iaload, 1, 0, 0, 0, 0) := by decide +kernel
theorem f0_849 : mFetch 0 849 = some (.invokevirtual 106, 3, 144, 0, 3, 11) := by decide +kernel
theorem f0_852 : mFetch 0 852 = some (.aload_n 2, 1, 0, 0, 0, 0) := by decide +kernel
theorem f0_853 : mFetch 0 853 = some (.aload_n 0, 1, 0, 0, 0, 0) := by decide +kernel
theorem f0_854 : mFetch 0 854 = some (.iload_n 3, 1, 0, 0, 0, 0) := by decide +kernel
theorem f0_855 : mFetch 0 855 = some (.iconst 1, 1, 0, 0, 0, 0) := by decide +kernel
theorem f0_856 : mFetch 0 856 = some (.iadd, 1, 0, 0, 0, 0) := by decide +kernel
theorem f0_857 : mFetch 0 857 = some (.iaload, 1, 0, 0, 0, 0) := by decide +kernel
theorem f0_858 : mFetch 0 858 = some (.aload_n 0, 1, 0, 0, 0, 0) := by decide +kernel
theorem f0_859 : mFetch 0 859 = some (.iload_n 3, 1, 0, 0, 0, 0) := by decide +kernel
theorem f0_860 : mFetch 0 860 = some (.iconst 2, 1, 0, 0, 0, 0) := by decide +kernel
theorem f0_861 : mFetch 0 861 = some (.iadd, 1, 0, 0, 0, 0) := by decide +kernel
theorem f0_862 : mFetch 0 862 = some (.iaload, 1, 0, 0, 0, 0) := by decide +kernel
theorem f0_863 : mFetch 0 863 = some (.invokevirtual 109, 3, 272, 0, 3, 12) := by decide +kernel
theorem f0_866 : mFetch 0 866 = some (.if_icmp .eq 569, 3, 1435, 0, 0, 0) := by decide +kernel
theorem f0_869 : mFetch 0 869 = some (.iconst 0, 1, 0, 0, 0, 0) := by decide +kernel
theorem f0_870 : mFetch 0 870 = some (.ireturn, 1, 0, 0, 0, 0) := by decide +kernel
theorem f0_871 : mFetch 0 871 = some (.aload_n 1, 1, 0, 0, 0, 0) := by decide +kernel
theorem f0_872 : mFetch 0 872 = some (.aload_n 0, 1, 0, 0, 0, 0) := by decide +kernel
theorem f0_873 : mFetch 0 873 = some (.iload_n 3, 1, 0, 0, 0, 0) := by decide +kernel
theorem f0_874 : mFetch 0 874 = some (.iconst 1, 1, 0, 0, 0, 0) := by decide +kernel
theorem f0_875 : mFetch 0 875 = some (.iadd, 1, 0, 0, 0, 0) := by decide +kernel
theorem f0_876 : mFetch 0 876 = some (.iaload, 1, 0, 0, 0, 0) := by decide +kernel
theorem f0_877 : mFetch 0 877 = some (.aload_n 0, 1, 0, 0, 0, 0) := by decide +kernel
theorem f0_878 : mFetch 0 878 = some (.iload_n 3, 1, 0, 0, 0, 0) := by decide +kernel
theorem f0_879 : mFetch 0 879 = some (.iconst 2, 1, 0, 0, 0, 0) := by decide +kernel
theorem f0_880 : mFetch 0 880 = some (.iadd, 1, 0, 0, 0, 0) := by decide +kernel
theorem f0_881 : mFetch 0 881 = some (.iaload, 1, 0, 0, 0, 0) := by decide +kernel
theorem f0_882 : mFetch 0 882 = some (.aload_n 0, 1, 0, 0, 0, 0) := by decide +kernel
theorem f0_883 : mFetch 0 883 = some (.iload_n 3, 1, 0, 0, 0, 0) := by decide +kernel
theorem f0_884 : mFetch 0 884 = some (.iconst 3, 1, 0, 0, 0, 0) := by decide +kernel
theorem f0_885 : mFetch 0 885 = some (.iadd, 1, 0, 0, 0, 0) := by decide +kernel
theorem f0_886 : mFetch 0 886 = some (.iaload, 1, 0, 0, 0, 0) := by decide +kernel
theorem f0_887 : mFetch 0 887 = some (.invokevirtual 110, 3, 145, 0, 4, 11) := by decide +kernel
theorem f0_890 : mFetch 0 890 = some (.aload_n 2, 1, 0, 0, 0, 0) := by decide +kernel
theorem f0_891 : mFetch 0 891 = some (.aload_n 0, 1, 0, 0, 0, 0) := by decide +kernel
theorem f0_892 : mFetch 0 892 = some (.iload_n 3, 1, 0, 0, 0, 0) := by decide +kernel
theorem f0_893 : mFetch 0 893 = some (.iconst 1, 1, 0, 0, 0, 0) := by decide +kernel
theorem f0_894 : mFetch 0 894 = some (.iadd, 1, 0, 0, 0, 0) := by decide +kernel
theorem f0_895 : mFetch 0 895 = some (.iaload, 1, 0, 0, 0, 0) := by decide +kernel
theorem f0_896 : mFetch 0 896 = some (.aload_n 0, 1, 0, 0, 0, 0) := by decide +kernel
theorem f0_897 : mFetch 0 897 = some (.iload_n 3, 1, 0, 0, 0, 0) := by decide +kernel
theorem f0_898 : mFetch 0 898 = some (.iconst 2, 1, 0, 0, 0, 0) := by decide +kernel
theorem f0_899 : mFetch 0 899 = some (.iadd, 1, 0, 0, 0, 0) := by decide +kernel
theorem f0_900 : mFetch 0 900 = some (.iaload, 1, 0, 0, 0, 0) := by decide +kernel
theorem f0_901 : mFetch 0 901 = some (.aload_n 0, 1, 0, 0, 0, 0) := by decide +kernel
theorem f0_902 : mFetch 0 902 = some (.iload_n 3, 1, 0, 0, 0, 0) := by decide +kernel
theorem f0_903 : mFetch 0 903 = some (.iconst 3, 1, 0, 0, 0, 0) := by decide +kernel
theorem f0_904 : mFetch 0 904 = some (.iadd, 1, 0, 0, 0, 0) := by decide +kernel
theorem f0_905 : mFetch 0 905 = some (.iaload, 1, 0, 0, 0, 0) := by decide +kernel
theorem f0_906 : mFetch 0 906 = some (.invokevirtual 113, 3, 274, 0, 4, 12) := by decide +kernel
theorem f0_909 : mFetch 0 909 = some (.if_icmp .eq 526, 3, 1435, 0, 0, 0) := by decide +kernel
theorem f0_912 : mFetch 0 912 = some (.iconst 0, 1, 0, 0, 0, 0) := by decide +kernel
theorem f0_913 : mFetch 0 913 = some (.ireturn, 1, 0, 0, 0, 0) := by decide +kernel
theorem f0_914 : mFetch 0 914 = some (.aload_n 1, 1, 0, 0, 0, 0) := by decide +kernel
theorem f0_915 : mFetch 0 915 = some (.aload_n 0, 1, 0, 0, 0, 0) := by decide +kernel
theorem f0_916 : mFetch 0 916 = some (.iload_n 3, 1, 0, 0, 0, 0) := by decide +kernel
theorem f0_917 : mFetch 0 917 = some (.iconst 1, 1, 0, 0, 0, 0) := by decide +kernel
theorem f0_918 : mFetch 0 918 = some (.iadd, 1, 0, 0, 0, 0) := by decide +kernel
theorem f0_919 : mFetch 0 919 = some (.iaload, 1, 0, 0, 0, 0) := by decide +kernel
theorem f0_920 : mFetch 0 920 = some (.aload_n 0, 1, 0, 0, 0, 0) := by decide +kernel
theorem f0_921 : mFetch 0 921 = some (.iload_n 3, 1, 0, 0, 0, 0) := by decide +kernel
theorem f0_922 : mFetch 0 922 = some (.iconst 2, 1, 0, 0, 0, 0) := by decide +kernel
theorem f0_923 : mFetch 0 923 = some (.iadd, 1, 0, 0, 0, 0) := by decide +kernel
theorem f0_924 : mFetch 0 924 = some (.iaload, 1, 0, 0, 0, 0) := by decide +kernel
theorem f0_925 : mFetch 0 925 = some (.invokevirtual 114, 3, 146, 0, 3, 11) := by decide +kernel
theorem f0_928 : mFetch 0 928 = some (.aload_n 2, 1, 0, 0, 0, 0) := by decide +kernel
theorem f0_929 : mFetch 0 929 = some (.aload_n 0, 1, 0, 0, 0, 0) := by decide +kernel
theorem f0_930 : mFetch 0 930 = some (.iload_n 3, 1, 0, 0, 0, 0) := by decide +kernel
theorem f0_931 : mFetch 0 931 = some (.iconst 1, 1, 0, 0, 0, 0) := by decide +kernel
theorem f0_932 : mFetch 0 932 = some (.iadd, 1, 0, 0, 0, 0) := by decide +kernel
theorem f0_933 : mFetch 0 933 = some (.iaload, 1, 0, 0, 0, 0) := by decide +kernel
theorem f0_934 : mFetch 0 934 = some (.aload_n 0, 1, 0, 0, 0, 0) := by decide +kernel
theorem f0_935 : mFetch 0 935 = some (.iload_n 3, 1, 0, 0, 0, 0) := by decide +kernel
theorem f0_936 : mFetch 0 936 = some (.iconst 2, 1, 0, 0, 0, 0) := by decide +kernel
theorem f0_937 : mFetch 0 937 = some (.iadd, 1, 0, 0, 0, 0) := by decide +kernel
theorem f0_938 : mFetch 0 938 = some (.iaload, 1, 0, 0, 0, 0) := by decide +kernel
theorem f0_939 : mFetch 0 939 = some (.invokevirtual 117, 3, 276, 0, 3, 12) := by decide +kernel
theorem f0_942 : mFetch 0 942 = some (.if_icmp .eq 493, 3, 1435, 0, 0, 0) := by decide +kernel
theorem f0_945 : mFetch 0 945 = some (.iconst 0, 1, 0, 0, 0, 0) := by decide +kernel
theorem f0_946 : mFetch 0 946 = some (.ireturn, 1, 0, 0, 0, 0) := by decide +kernel
theorem f0_947 : mFetch 0 947 = some (.aload_n 1, 1, 0, 0, 0, 0) := by decide +kernel
theorem f0_948 : mFetch 0 948 = some (.aload_n 0, 1, 0, 0, 0, 0) := by decide +kernel
theorem f0_949 : mFetch 0 949 = some (.iload_n 3, 1, 0, 0, 0, 0) := by decide +kernel
theorem f0_950 : mFetch 0 950 = some (.iconst 1, 1, 0, 0, 0, 0) := by decide +kernel
theorem f0_951 : mFetch 0 951 = some (.iadd, 1, 0, 0, 0, 0) := by decide +kernel
theorem f0_952 : mFetch 0 952 = some (.iaload, 1, 0, 0, 0, 0) := by decide +kernel
theorem f0_953 : mFetch 0 953 = some (.invokevirtual 118, 3, 147, 0, 2, 11) := by decide +kernel
theorem f0_956 : mFetch 0 956 = some (.aload_n 2, 1, 0, 0, 0, 0) := by decide +kernel
theorem f0_957 : mFetch 0 957 = some (.aload_n 0, 1, 0, 0, 0, 0) := by decide +kernel
theorem f0_958 : mFetch 0 958 = some (.iload_n 3, 1, 0, 0, 0, 0) := by decide +kernel
theorem f0_959 : mFetch 0 959 = some (.iconst 1, 1, 0, 0, 0, 0) := by decide +kernel
theorem f0_960 : mFetch 0 960 = some (.iadd, 1, 0, 0, 0, 0) := by decide +kernel
theorem f0_961 : mFetch 0 961 = some (.iaload, 1, 0, 0, 0, 0) := by decide +kernel
theorem f0_962 : mFetch 0 962 = some (.invokevirtual 121, 3, 281, 0, 2, 12) := by decide +kernel
theorem f0_965 : mFetch 0 965 = some (.if_icmp .eq 470, 3, 1435, 0, 0, 0) := by decide +kernel
theorem f0_968 : mFetch 0 968 = some (.iconst 0, 1, 0, 0, 0, 0) := by decide +kernel
theorem f0_969 : mFetch 0 969 = some (.ireturn, 1, 0, 0, 0, 0) := by decide +kernel
theorem f0_970 : mFetch 0 970 = some (.aload_n 1, 1, 0, 0, 0, 0) := by decide +kernel
theorem f0_971 : mFetch 0 971 = some (.aload_n 0, 1, 0, 0, 0, 0) := by decide +kernel
theorem f0_972 : mFetch 0 972 = some (.iload_n 3, 1, 0, 0, 0, 0) := by decide +kernel
theorem f0_973 : mFetch 0 973 = some (.iconst 1, 1, 0, 0, 0, 0) := by decide +kernel
theorem f0_974 : mFetch 0 974 = some (.iadd, 1, 0, 0, 0, 0) := by decide +kernel
theorem f0_975 : mFetch 0 975 = some (.iaload, 1, 0, 0, 0, 0) := by decide +kernel
theorem f0_976 : mFetch 0 976 = some (.aload_n 0, 1, 0, 0, 0, 0) := by decide +kernel
theorem f0_977 : mFetch 0 977 = some (.iload_n 3, 1, 0, 0, 0, 0) := by decide +kernel
theorem f0_978 : mFetch 0 978 = some (.iconst 2, 1, 0, 0, 0, 0) := by decide +kernel
theorem f0_979 : mFetch 0 979 = some (.iadd, 1, 0, 0, 0, 0) := by decide +kernel
theorem f0_980 : mFetch 0 980 = some (.iaload, 1, 0, 0, 0, 0) := by decide +kernel
theorem f0_981 : mFetch 0 981 = some (.invokevirtual 122, 3, 148, 0, 3, 11) := by decide +kernel
theorem f0_984 : mFetch 0 984 = some (.aload_n 2, 1, 0, 0, 0, 0) := by decide +kernel
theorem f0_985 : mFetch 0 985 = some (.aload_n 0, 1, 0, 0, 0, 0) := by decide +kernel
theorem f0_986 : mFetch 0 986 = some (.iload_n 3, 1, 0, 0, 0, 0) := by decide +kernel
theorem f0_987 : mFetch 0 987 = some (.iconst 1, 1, 0, 0, 0, 0) := by decide +kernel
theorem f0_988 : mFetch 0 988 = some (.iadd, 1, 0, 0, 0, 0) := by decide +kernel
theorem f0_989 : mFetch 0 989 = some (.iaload, 1, 0, 0, 0, 0) := by decide +kernel
theorem f0_990 : mFetch 0 990 = some (.aload_n 0, 1, 0, 0, 0, 0) := by decide +kernel
theorem f0_991 : mFetch 0 991 = some (.iload_n 3, 1, 0, 0, 0, 0) := by decide +kernel
theorem f0_992 : mFetch 0 992 = some (.iconst 2, 1, 0, 0, 0, 0) := by decide +kernel
theorem f0_993 : mFetch 0 993 = some (.iadd, 1, 0, 0, 0, 0) := by decide +kernel
theorem f0_994 : mFetch 0 994 = some (.iaload, 1, 0, 0, 0, 0) := by decide +kernel
theorem f0_995 : mFetch 0 995 = some (.invokevirtual 125, 3, 283, 0, 3, 12) := by decide +kernel
theorem f0_998 : mFetch 0 998 = some (.if_icmp .eq 437, 3, 1435, 0, 0, 0) := by decide +kernel
theorem f0_1001 : mFetch 0 1001 = some (.iconst 0, 1, 0, 0, 0, 0) := by decide +kernel
theorem f0_1002 : mFetch 0 1002 = some (.ireturn, 1, 0, 0, 0, 0) := by decide +kernel
theorem f0_1003 : mFetch 0 1003 = some (.aload_n 1, 1, 0, 0, 0, 0) := by decide +kernel
theorem f0_1004 : mFetch 0 1004 = some (.aload_n 0, 1, 0, 0, 0, 0) := by decide +kernel
theorem f0_1005 : mFetch 0 1005 = some (.iload_n 3, 1, 0, 0, 0, 0) := by decide +kernel
theorem f0_1006 : mFetch 0 1006 = some (.iconst 1, 1, 0, 0, 0, 0) := by decide +kernel
theorem f0_1007 : mFetch 0 1007 = some (.iadd, 1, 0, 0, 0, 0) := by decide +kernel
theorem f0_1008 : mFetch 0 1008 = some (.iaload, 1, 0, 0, 0, 0) := by decide +kernel
theorem f0_1009 : mFetch 0 1009 = some (.aload_n 0, 1, 0, 0, 0, 0) := by decide +kernel
theorem f0_1010 : mFetch 0 1010 = some (.iload_n 3, 1, 0, 0, 0, 0) := by decide +kernel
theorem f0_1011 : mFetch 0 1011 = some (.iconst 2, 1, 0, 0, 0, 0) := by decide +kernel
theorem f0_1012 : mFetch 0 1012 = some (.iadd, 1, 0, 0, 0, 0) := by decide +kernel
theorem f0_1013 : mFetch 0 1013 = some (.iaload, 1, 0, 0, 0, 0) := by decide +kernel
theorem f0_1014 : mFetch 0 1014 = some (.invokevirtual 126, 3, 149, 0, 3, 11) := by decide +kernel
theorem f0_1017 : mFetch 0 1017 = some (.aload_n 2, 1, 0, 0, 0, 0) := by decide +kernel
theorem f0_1018 : mFetch 0 1018 = some (.aload_n 0, 1, 0, 0, 0, 0) := by decide +kernel
theorem f0_1019 : mFetch 0 1019 = some (.iload_n 3, 1, 0, 0, 0, 0) := by decide +kernel
theorem f0_1020 : mFetch 0 1020 = some (.iconst 1, 1, 0, 0, 0, 0) := by decide +kernel
theorem f0_1021 : mFetch 0 1021 = some (.iadd, 1, 0, 0, 0, 0) := by decide +kernel
theorem f0_1022 : mFetch 0 1022 = some (.iaload, 1, 0, 0, 0, 0) := by decide +kernel
theorem f0_1023 : mFetch 0 1023 = some (.aload_n 0, 1, 0, 0, 0, 0) := by decide +kernel
theorem f0_1024 : mFetch 0 1024 = some (.iload_n 3, 1, 0, 0, 0, 0) := by decide +kernel
theorem f0_1025 : mFetch 0 1025 = some (.iconst 2, 1, 0, 0, 0, 0) := by decide +kernel
theorem f0_1026 : mFetch 0 1026 = some (.iadd, 1, 0, 0, 0, 0) := by decide +kernel
theorem f0_1027 : mFetch 0 1027 = some (.iaload, 1, 0, 0, 0, 0) := by decide +kernel
theorem f0_1028 : mFetch 0 1028 = some (.invokevirtual 129, 3, 286, 0, 3, 12) := by decide +kernel
theorem f0_1031 : mFetch 0 1031 = some (.if_icmp .eq 404, 3, 1435, 0, 0, 0) := by decide +kernel
theorem f0_1034 : mFetch 0 1034 = some (.iconst 0, 1, 0, 0, 0, 0) := by decide +kernel
theorem f0_1035 : mFetch 0 1035 = some (.ireturn, 1, 0, 0, 0, 0) := by decide +kernel
theorem f0_1036 : mFetch 0 1036 = some (.aload_n 1, 1, 0, 0, 0, 0) := by decide +kernel
theorem f0_1037 : mFetch 0 1037 = some (.aload_n 0, 1, 0, 0, 0, 0) := by decide +kernel
theorem f0_1038 : mFetch 0 1038 = some (.iload_n 3, 1, 0, 0, 0, 0) := by decide +kernel
theorem f0_1039 : mFetch 0 1039 = some (.iconst 1, 1, 0, 0, 0, 0) := by decide +kernel
theorem f0_1040 : mFetch 0 1040 = some (.iadd, 1, 0, 0, 0, 0) := by decide +kernel
theorem f0_1041 : mFetch 0 1041 = some (.iaload, 1, 0, 0, 0, 0) := by decide +kernel
theorem f0_1042 : mFetch 0 1042 = some (.invokevirtual 130, 3, 150, 0, 2, 11) := by decide +kernel
theorem f0_1045 : mFetch 0 1045 = some (.aload_n 2, 1, 0, 0, 0, 0) := by decide +kernel
theorem f0_1046 : mFetch 0 1046 = some (.aload_n 0, 1, 0, 0, 0, 0) := by decide +kernel
theorem f0_1047 : mFetch 0 1047 = some (.iload_n 3, 1, 0, 0, 0, 0) := by decide +kernel
theorem f0_1048 : mFetch 0 1048 = some (.iconst 1, 1, 0, 0, 0, 0) := by decide +kernel
theorem f0_1049 : mFetch 0 1049 = some (.iadd, 1, 0, 0, 0, 0) := by decide +kernel
theorem f0_1050 : mFetch 0 1050 = some (.iaload, 1, 0, 0, 0, 0) := by decide +kernel
theorem f0_1051 : mFetch 0 1051 = some (.invokevirtual 133, 3, 287, 0, 2, 12) := by decide +kernel
theorem f0_1054 : mFetch 0 1054 = some (.if_icmp .eq 381, 3, 1435, 0, 0, 0) := by decide +kernel
theorem f0_1057 : mFetch 0 1057 = some (.iconst 0, 1, 0, 0, 0, 0) := by decide +kernel
theorem f0_1058 : mFetch 0 1058 = some (.ireturn, 1, 0, 0, 0, 0) := by decide +kernel
theorem f0_1059 : mFetch 0 1059 = some (.aload_n 1, 1, 0, 0, 0, 0) := by decide +kernel
theorem f0_1060 : mFetch 0 1060 = some (.aload_n 0, 1, 0, 0, 0, 0) := by decide +kernel
theorem f0_1061 : mFetch 0 1061 = some (.iload_n 3, 1, 0, 0, 0, 0) := by decide +kernel
theorem f0_1062 : mFetch 0 1062 = some (.iconst 1, 1, 0, 0, 0, 0) := by decide +kernel
theorem f0_1063 : mFetch 0 1063 = some (.iadd, 1, 0, 0, 0, 0) := by decide +kernel
theorem f0_1064 : mFetch 0 1064 = some (.iaload, 1, 0, 0, 0, 0) := by decide +kernel
theorem f0_1065 : mFetch 0 1065 = some (.aload_n 0, 1, 0, 0, 0, 0) := by decide +kernel
theorem f0_1066 : mFetch 0 1066 = some (.iload_n 3, 1, 0, 0, 0, 0) := by decide +kernel
theorem f0_1067 : mFetch 0 1067 = some (.iconst 2, 1, 0, 0, 0, 0) := by decide +kernel
theorem f0_1068 : mFetch 0 1068 = some (.iadd, 1, 0, 0, 0, 0) := by decide +kernel
theorem f0_1069 : mFetch 0 1069 = some (.iaload, 1, 0, 0, 0, 0) := by decide +kernel
theorem f0_1070 : mFetch 0 1070 = some (.invokevirtual 134, 3, 151, 0, 3, 11) := by decide +kernel
theorem f0_1073 : mFetch 0 1073 = some (.aload_n 2, 1, 0, 0, 0, 0) := by decide +kernel
theorem f0_1074 : mFetch 0 1074 = some (.aload_n 0, 1, 0, 0, 0, 0) := by decide +kernel
theorem f0_1075 : mFetch 0 1075 = some (.iload_n 3, 1, 0, 0, 0, 0) := by decide +kernel
theorem f0_1076 : mFetch 0 1076 = some (.iconst 1, 1, 0, 0, 0, 0) := by decide +kernel
theorem f0_1077 : mFetch 0 1077 = some (.iadd, 1, 0, 0, 0, 0) := by decide +kernel
theorem f0_1078 : mFetch 0 1078 = some (.iaload, 1, 0, 0, 0, 0) := by decide +kernel
theorem f0_1079 : mFetch 0 1079 = some (.aload_n 0, 1, 0, 0, 0, 0) := by decide +kernel
theorem f0_1080 : mFetch 0 1080 = some (.iload_n 3, 1, 0, 0, 0, 0) := by decide +kernel
theorem f0_1081 : mFetch 0 1081 = some (.iconst 2, 1, 0, 0, 0, 0) := by decide +kernel
theorem f0_1082 : mFetch 0 1082 = some (.iadd, 1, 0, 0, 0, 0) := by decide +kernel
theorem f0_1083 : mFetch 0 1083 = some (.iaload, 1, 0, 0, 0, 0) := by decide +kernel
theorem f0_1084 : mFetch 0 1084 = some (.invokevirtual 137, 3, 301, 0, 3, 12) := by decide +kernel
theorem f0_1087 : mFetch 0 1087 = some (.if_icmp .eq 348, 3, 1435, 0, 0, 0) := by decide +kernel
theorem f0_1090 : mFetch 0 1090 = some (.iconst 0, 1, 0, 0, 0, 0) := by decide +kernel
theorem f0_1091 : mFetch 0 1091 = some (.ireturn, 1, 0, 0, 0, 0) := by decide +kernel
theorem f0_1092 : mFetch 0 1092 = some (.aload_n 1, 1, 0, 0, 0, 0) := by decide +kernel
theorem f0_1093 : mFetch 0 1093 = some (.aload_n 0, 1, 0, 0, 0, 0) := by decide +kernel
theorem f0_1094 : mFetch 0 1094 = some (.iload_n 3, 1, 0, 0, 0, 0) := by decide +kernel
theorem f0_1095 : mFetch 0 1095 = some (.iconst 1, 1, 0, 0, 0, 0) := by decide +kernel
theorem f0_1096 : mFetch 0 1096 = some (.iadd, 1, 0, 0, 0, 0) := by decide +kernel
theorem f0_1097 : mFetch 0 1097 = some (.iaload, 1, 0, 0, 0, 0) := by decide +kernel
theorem f0_1098 : mFetch 0 1098 = some (.invokevirtual 138, 3, 152, 0, 2, 11) := by decide +kernel
theorem f0_1101 : mFetch 0 1101 = some (.aload_n 2, 1, 0, 0, 0, 0) := by decide +kernel
theorem f0_1102 : mFetch 0 1102 = some (.aload_n 0, 1, 0, 0, 0, 0) := by decide +kernel
theorem f0_1103 : mFetch 0 1103 = some (.iload_n 3, 1, 0, 0, 0, 0) := by decide +kernel
theorem f0_1104 : mFetch 0 1104 = some (.iconst 1, 1, 0, 0, 0, 0) := by decide +kernel
theorem f0_1105 : mFetch 0 1105 = some (.iadd, 1, 0, 0, 0, 0) := by decide +kernel
theorem f0_1106 : mFetch 0 1106 = some (.iaload, 1, 0, 0, 0, 0) := by decide +kernel
theorem f0_1107 : mFetch 0 1107 = some (.invokevirtual 141, 3, 302, 0, 2, 12) := by decide +kernel
theorem f0_1110 : mFetch 0 1110 = some (.if_icmp .eq 325, 3, 1435, 0, 0, 0) := by decide +kernel
theorem f0_1113 : mFetch 0 1113 = some (.iconst 0, 1, 0, 0, 0, 0) := by decide +kernel
theorem f0_1114 : mFetch 0 1114 = some (.ireturn, 1, 0, 0, 0, 0) := by decide +kernel
theorem f0_1115 : mFetch 0 1115 = some (.aload_n 1, 1, 0, 0, 0, 0) := by decide +kernel
theorem f0_1116 : mFetch 0 1116 = some (.aload_n 0, 1, 0, 0, 0, 0) := by decide +kernel
theorem f0_1117 : mFetch 0 1117 = some (.iload_n 3, 1, 0, 0, 0, 0) := by decide +kernel
theorem f0_1118 : mFetch 0 1118 = some (.iconst 1, 1, 0, 0, 0, 0) := by decide +kernel
theorem f0_1119 : mFetch 0 1119 = some (.iadd, 1, 0, 0, 0, 0) := by decide +kernel
theorem f0_1120 : mFetch 0 1120 = some (.iaload, 1, 0, 0, 0, 0) := by decide +kernel
theorem f0_1121 : mFetch 0 1121 = some (.aload_n 0, 1, 0, 0, 0, 0) := by decide +kernel
theorem f0_1122 : mFetch 0 1122 = some (.iload_n 3, 1, 0, 0, 0, 0) := by decide +kernel
theorem f0_1123 : mFetch 0 1123 = some (.iconst 2, 1, 0, 0, 0, 0) := by decide +kernel
theorem f0_1124 : mFetch 0 1124 = some (.iadd, 1, 0, 0, 0, 0) := by decide +kernel
theorem f0_1125 : mFetch 0 1125 = some (.iaload, 1, 0, 0, 0, 0) := by decide +kernel
theorem f0_1126 : mFetch 0 1126 = some (.aload_n 0, 1, 0, 0, 0, 0) := by decide +kernel
theorem f0_1127 : mFetch 0 1127 = some (.iload_n 3, 1, 0, 0, 0, 0) := by decide +kernel
theorem f0_1128 : mFetch 0 1128 = some (.iconst 3, 1, 0, 0, 0, 0) := by decide +kernel
theorem f0_1129 : mFetch 0 1129 = some (.iadd, 1, 0, 0, 0, 0) := by decide +kernel
theorem f0_1130 : mFetch 0 1130 = some (.iaload, 1, 0, 0, 0, 0) := by decide +kernel
theorem f0_1131 : mFetch 0 1131 = some (.invokevirtual 142, 3, 153, 0, 4, 11) := by decide +kernel
theorem f0_1134 : mFetch 0 1134 = some (.aload_n 2, 1, 0, 0, 0, 0) := by decide +kernel
theorem f0_1135 : mFetch 0 1135 = some (.aload_n 0, 1, 0, 0, 0, 0) := by decide +kernel
theorem f0_1136 : mFetch 0 1136 = some (.iload_n 3, 1, 0, 0, 0, 0) := by decide +kernel
theorem f0_1137 : mFetch 0 1137 = some (.iconst 1, 1, 0, 0, 0, 0) := by decide +kernel
theorem f0_1138 : mFetch 0 1138 = some (.iadd, 1, 0, 0, 0, 0) := by decide +kernel
theorem f0_1139 : mFetch 0 1139 = some (.iaload, 1, 0, 0, 0, 0) := by decide +kernel
theorem f0_1140 : mFetch 0 1140 = some (.aload_n 0, 1, 0, 0, 0, 0) := by decide +kernel
theorem f0_1141 : mFetch 0 1141 = some (.iload_n 3, 1, 0, 0, 0, 0) := by decide +kernel
theorem f0_1142 : mFetch 0 1142 = some (.iconst 2, 1, 0, 0, 0, 0) := by decide +kernel
theorem f0_1143 : mFetch 0 1143 = some (.iadd, 1, 0, 0, 0, 0) := by decide +kernel
theorem f0_1144 : mFetch 0 1144 = some (.iaload, 1, 0, 0, 0, 0) := by decide +kernel
theorem f0_1145 : mFetch 0 1145 = some (.aload_n 0, 1, 0, 0, 0, 0) := by decide +kernel
theorem f0_1146 : mFetch 0 1146 = some (.iload_n 3, 1, 0, 0, 0, 0) := by decide +kernel
theorem f0_1147 : mFetch 0 1147 = some (.iconst 3, 1, 0, 0, 0, 0) := by decide +kernel
theorem f0_1148 : mFetch 0 1148 = some (.iadd, 1, 0, 0, 0, 0) := by decide +kernel
theorem f0_1149 : mFetch 0 1149 = some (.iaload, 1, 0, 0, 0, 0) := by decide +kernel
theorem f0_1150 : mFetch 0 1150 = some (.invokevirtual 145, 3, 291, 0, 4, 12) := by decide +kernel
theorem f0_1153 : mFetch 0 1153 = some (.if_icmp .eq 282, 3, 1435, 0, 0, 0) := by decide +kernel
theorem f0_1156 : mFetch 0 1156 = some (.iconst 0, 1, 0, 0, 0, 0) := by decide +kernel
theorem f0_1157 : mFetch 0 1157 = some (.ireturn, 1, 0, 0, 0, 0) := by decide +kernel
theorem f0_1158 : mFetch 0 1158 = some (.aload_n 1, 1, 0, 0, 0, 0) := by decide +kernel
theorem f0_1159 : mFetch 0 1159 = some (.aload_n 0, 1, 0, 0, 0, 0) := by decide +kernel
theorem f0_1160 : mFetch 0 1160 = some (.iload_n 3, 1, 0, 0, 0, 0) := by decide +kernel
theorem f0_1161 : mFetch 0 1161 = some (.iconst 1, 1, 0, 0, 0, 0) := by decide +kernel
theorem f0_1162 : mFetch 0 1162 = some (.iadd, 1, 0, 0, 0, 0) := by decide +kernel
theorem f0_1163 : mFetch 0 1163 = some (.iaload, 1, 0, 0, 0, 0) := by decide +kernel
theorem f0_1164 : mFetch 0 1164 = some (.aload_n 0, 1, 0, 0, 0, 0) := by decide +kernel
theorem f0_1165 : mFetch 0 1165 = some (.iload_n 3, 1, 0, 0, 0, 0) := by decide +kernel
theorem f0_1166 : mFetch 0 1166 = some (.iconst 2, 1, 0, 0, 0, 0) := by decide +kernel
theorem f0_1167 : mFetch 0 1167 = some (.iadd, 1, 0, 0, 0, 0) := by decide +kernel
theorem f0_1168 : mFetch 0 1168 = some (.iaload, 1, 0, 0, 0, 0) := by decide +kernel
theorem f0_1169 : mFetch 0 1169 = some (.invokevirtual 146, 3, 154, 0, 3, 11) := by decide +kernel
theorem f0_1172 : mFetch 0 1172 = some (.aload_n 2, 1, 0, 0, 0, 0) := by decide +kernel
theorem f0_1173 : mFetch 0 1173 = some (.aload_n 0, 1, 0, 0, 0, 0) := by decide +kernel
theorem f0_1174 : mFetch 0 1174 = some (.iload_n 3, 1, 0, 0, 0, 0) := by decide +kernel
theorem f0_1175 : mFetch 0 1175 = some (.iconst 1, 1, 0, 0, 0, 0) := by decide +kernel
theorem f0_1176 : mFetch 0 1176 = some (.iadd, 1, 0, 0, 0, 0) := by decide +kernel
theorem f0_1177 : mFetch 0 1177 = some (.iaload, 1, 0, 0, 0, 0) := by decide +kernel
theorem f0_1178 : mFetch 0 1178 = some (.aload_n 0, 1, 0, 0, 0, 0) := by decide +kernel
theorem f0_1179 : mFetch 0 1179 = some (.iload_n 3, 1, 0, 0, 0, 0) := by decide +kernel
theorem f0_1180 : mFetch 0 1180 = some (.iconst 2, 1, 0, 0, 0, 0) := by decide +kernel
theorem f0_1181 : mFetch 0 1181 = some (.iadd, 1, 0, 0, 0, 0) := by decide +kernel
theorem f0_1182 : mFetch 0 1182 = some (.iaload, 1, 0, 0, 0, 0) := by decide +kernel
theorem f0_1183 : mFetch 0 1183 = some (.invokevirtual 149, 3, 292, 0, 3, 12) := by decide +kernel
theorem f0_1186 : mFetch 0 1186 = some (.if_icmp .eq 249, 3, 1435, 0, 0, 0) := by decide +kernel
theorem f0_1189 : mFetch 0 1189 = some (.iconst 0, 1, 0, 0, 0, 0) := by decide +kernel
theorem f0_1190 : mFetch 0 1190 = some (.ireturn, 1, 0, 0, 0, 0) := by decide +kernel
theorem f0_1191 : mFetch 0 1191 = some (.aload_n 1, 1, 0, 0, 0, 0) := by decide +kernel
theorem f0_1192 : mFetch 0 1192 = some (.aload_n 0, 1, 0, 0, 0, 0) := by decide +kernel
theorem f0_1193 : mFetch 0 1193 = some (.iload_n 3, 1, 0, 0, 0, 0) := by decide +kernel
theorem f0_1194 : mFetch 0 1194 = some (.iconst 1, 1, 0, 0, 0, 0) := by decide +kernel
theorem f0_1195 : mFetch 0 1195 = some (.iadd, 1, 0, 0, 0, 0) := by decide +kernel
theorem f0_1196 : mFetch 0 1196 = some (.iaload, 1, 0, 0, 0, 0) := by decide +kernel
theorem f0_1197 : mFetch 0 1197 = some (.aload_n 0, 1, 0, 0, 0, 0) := by decide +kernel
theorem f0_1198 : mFetch 0 1198 = some (.iload_n 3, 1, 0, 0, 0, 0) := by decide +kernel
theorem f0_1199 : mFetch 0 1199 = some (.iconst 2, 1, 0, 0, 0, 0) := by decide +kernel
theorem f0_1200 : mFetch 0 1200 = some (.iadd, 1, 0, 0, 0, 0) := by decide +kernel
theorem f0_1201 : mFetch 0 1201 = some (.iaload, 1, 0, 0, 0, 0) := by decide +kernel
theorem f0_1202 : mFetch 0 1202 = some (.aload_n 0, 1, 0, 0, 0, 0) := by decide +kernel
theorem f0_1203 : mFetch 0 1203 = some (.iload_n 3, 1, 0, 0, 0, 0) := by decide +kernel
theorem f0_1204 : mFetch 0 1204 = some (.iconst 3, 1, 0, 0, 0, 0) := by decide +kernel
theorem f0_1205 : mFetch 0 1205 = some (.iadd, 1, 0, 0, 0, 0) := by decide +kernel
theorem f0_1206 : mFetch 0 1206 = some (.iaload, 1, 0, 0, 0, 0) := by decide +kernel
theorem f0_1207 : mFetch 0 1207 = some (.invokevirtual 150, 3, 155, 0, 4, 11) := by decide +kernel
theorem f0_1210 : mFetch 0 1210 = some (.aload_n 2, 1, 0, 0, 0, 0) := by decide +kernel
theorem f0_1211 : mFetch 0 1211 = some (.aload_n 0, 1, 0, 0, 0, 0) := by decide +kernel
theorem f0_1212 : mFetch 0 1212 = some (.iload_n 3, 1, 0, 0, 0, 0) := by decide +kernel
theorem f0_1213 : mFetch 0 1213 = some (.iconst 1, 1, 0, 0, 0, 0) := by decide +kernel
theorem f0_1214 : mFetch 0 1214 = some (.iadd, 1, 0, 0, 0, 0) := by decide +kernel
theorem f0_1215 : mFetch 0 1215 = some (.iaload, 1, 0, 0, 0, 0) := by decide +kernel
theorem f0_1216 : mFetch 0 1216 = some (.aload_n 0, 1, 0, 0, 0, 0) := by decide +kernel
theorem f0_1217 : mFetch 0 1217 = some (.iload_n 3, 1, 0, 0, 0, 0) := by decide +kernel
theorem f0_1218 : mFetch 0 1218 = some (.iconst 2, 1, 0, 0, 0, 0) := by decide +kernel
theorem f0_1219 : mFetch 0 1219 = some (.iadd, 1, 0, 0, 0, 0) := by decide +kernel
theorem f0_1220 : mFetch 0 1220 = some (.iaload, 1, 0, 0, 0, 0) := by decide +kernel
theorem f0_1221 : mFetch 0 1221 = some (.aload_n 0, 1, 0, 0, 0, 0) := by decide +kernel
theorem f0_1222 : mFetch 0 1222 = some (.iload_n 3, 1, 0, 0, 0, 0) := by decide +kernel
theorem f0_1223 : mFetch 0 1223 = some (.iconst 3, 1, 0, 0, 0, 0) := by decide +kernel
theorem f0_1224 : mFetch 0 1224 = some (.iadd, 1, 0, 0, 0, 0) := by decide +kernel
theorem f0_1225 : mFetch 0 1225 = some (.iaload, 1, 0, 0, 0, 0) := by decide +kernel
theorem f0_1226 : mFetch 0 1226 = some (.invokevirtual 153, 3, 293, 0, 4, 12) := by decide +kernel
theorem f0_1229 : mFetch 0 1229 = some (.if_icmp .eq 206, 3, 1435, 0, 0, 0) := by decide +kernel
theorem f0_1232 : mFetch 0 1232 = some (.iconst 0, 1, 0, 0, 0, 0) := by decide +kernel
theorem f0_1233 : mFetch 0 1233 = some (.ireturn, 1, 0, 0, 0, 0) := by decide +kernel
theorem f0_1234 : mFetch 0 1234 = some (.aload_n 1, 1, 0, 0, 0, 0) := by decide +kernel
theorem f0_1235 : mFetch 0 1235 = some (.aload_n 0, 1, 0, 0, 0, 0) := by decide +kernel
theorem f0_1236 : mFetch 0 1236 = some (.iload_n 3, 1, 0, 0, 0, 0) := by decide +kernel
theorem f0_1237 : mFetch 0 1237 = some (.iconst 1, 1, 0, 0, 0, 0) := by decide +kernel
theorem f0_1238 : mFetch 0 1238 = some (.iadd, 1, 0, 0, 0, 0) := by decide +kernel
theorem f0_1239 : mFetch 0 1239 = some (.iaload, 1, 0, 0, 0, 0) := by decide +kernel
theorem f0_1240 : mFetch 0 1240 = some (.invokevirtual 154, 3, 156, 0, 2, 11) := by decide +kernel
theorem f0_1243 : mFetch 0 1243 = some (.aload_n 2, 1, 0, 0, 0, 0) := by decide +kernel
theorem f0_1244 : mFetch 0 1244 = some (.aload_n 0, 1, 0, 0, 0, 0) := by decide +kernel
theorem f0_1245 : mFetch 0 1245 = some (.iload_n 3, 1, 0, 0, 0, 0) := by decide +kernel
theorem f0_1246 : mFetch 0 1246 = some (.iconst 1, 1, 0, 0, 0, 0) := by decide +kernel
theorem f0_1247 : mFetch 0 1247 = some (.iadd, 1, 0, 0, 0, 0) := by decide +kernel
theorem f0_1248 : mFetch 0 1248 = some (.iaload, 1, 0, 0, 0, 0) := by decide +kernel
theorem f0_1249 : mFetch 0 1249 = some (.invokevirtual 157, 3, 297, 0, 2, 12) := by decide +kernel
theorem f0_1252 : mFetch 0 1252 = some (.if_icmp .eq 183, 3, 1435, 0, 0, 0) := by decide +kernel
theorem f0_1255 : mFetch 0 1255 = some (.iconst 0, 1, 0, 0, 0, 0) := by decide +kernel
theorem f0_1256 : mFetch 0 1256 = some (.ireturn, 1, 0, 0, 0, 0) := by decide +kernel
theorem f0_1257 : mFetch 0 1257 = some (.aload_n 1, 1, 0, 0, 0, 0) := by decide +kernel
theorem f0_1258 : mFetch 0 1258 = some (.aload_n 0, 1, 0, 0, 0, 0) := by decide +kernel
theorem f0_1259 : mFetch 0 1259 = some (.iload_n 3, 1, 0, 0, 0, 0) := by decide +kernel
theorem f0_1260 : mFetch 0 1260 = some (.iconst 1, 1, 0, 0, 0, 0) := by decide +kernel
theorem f0_1261 : mFetch 0 1261 = some (.iadd, 1, 0, 0, 0, 0) := by decide +kernel
theorem f0_1262 : mFetch 0 1262 = some (.iaload, 1, 0, 0, 0, 0) := by decide +kernel
theorem f0_1263 : mFetch 0 1263 = some (.aload_n 0, 1, 0, 0, 0, 0) := by decide +kernel
theorem f0_1264 : mFetch 0 1264 = some (.iload_n 3, 1, 0, 0, 0, 0) := by decide +kernel
theorem f0_1265 : mFetch 0 1265 = some (.iconst 2, 1, 0, 0, 0, 0) := by decide +kernel
theorem f0_1266 : mFetch 0 1266 = some (.iadd, 1, 0, 0, 0, 0) := by decide +kernel
theorem f0_1267 : mFetch 0 1267 = some (.iaload, 1, 0, 0, 0, 0) := by decide +kernel
theorem f0_1268 : mFetch 0 1268 = some (.invokevirtual 158, 3, 157, 0, 3, 11) := by decide +kernel
theorem f0_1271 : mFetch 0 1271 = some (.aload_n 2, 1, 0, 0, 0, 0) := by decide +kernel
theorem f0_1272 : mFetch 0 1272 = some (.aload_n 0, 1, 0, 0, 0, 0) := by decide +kernel
theorem f0_1273 : mFetch 0 1273 = some (.iload_n 3, 1, 0, 0, 0, 0) := by decide +kernel
theorem f0_1274 : mFetch 0 1274 = some (.iconst 1, 1, 0, 0, 0, 0) := by decide +kernel
theorem f0_1275 : mFetch 0 1275 = some (.iadd, 1, 0, 0, 0, 0) := by decide +kernel
theorem f0_1276 : mFetch 0 1276 = some (.iaload, 1, 0, 0, 0, 0) := by decide +kernel
theorem f0_1277 : mFetch 0 1277 = some (.aload_n 0, 1, 0, 0, 0, 0) := by decide +kernel
theorem f0_1278 : mFetch 0 1278 = some (.iload_n 3, 1, 0, 0, 0, 0) := by decide +kernel
theorem f0_1279 : mFetch 0 1279 = some (.iconst 2, 1, 0, 0, 0, 0) := by decide +kernel
theorem f0_1280 : mFetch 0 1280 = some (.iadd, 1, 0, 0, 0, 0) := by decide +kernel
theorem f0_1281 : mFetch 0 1281 = some (.iaload, 1, 0, 0, 0, 0) := by decide +kernel
theorem f0_1282 : mFetch 0 1282 = some (.invokevirtual 161, 3, 299, 0, 3, 12) := by decide +kernel
theorem f0_1285 : mFetch 0 1285 = some (.if_icmp .eq 150, 3, 1435, 0, 0, 0) := by decide +kernel
theorem f0_1288 : mFetch 0 1288 = some (.iconst 0, 1, 0, 0, 0, 0) := by decide +kernel
theorem f0_1289 : mFetch 0 1289 = some (.ireturn, 1, 0, 0, 0, 0) := by decide +kernel
theorem f0_1290 : mFetch 0 1290 = some (.aload_n 1, 1, 0, 0, 0, 0) := by decide +kernel
theorem f0_1291 : mFetch 0 1291 = some (.aload_n 0, 1, 0, 0, 0, 0) := by decide +kernel
theorem f0_1292 : mFetch 0 1292 = some (.iload_n 3, 1, 0, 0, 0, 0) := by decide +kernel
theorem f0_1293 : mFetch 0 1293 = some (.iconst 1, 1, 0, 0, 0, 0) := by decide +kernel
theorem f0_1294 : mFetch 0 1294 = some (.iadd, 1, 0, 0, 0, 0) := by decide +kernel
theorem f0_1295 : mFetch 0 1295 = some (.iaload, 1, 0, 0, 0, 0) := by decide +kernel
theorem f0_1296 : mFetch 0 1296 = some (.invokevirtual 162, 3, 158, 0, 2, 11) := by decide +kernel
theorem f0_1299 : mFetch 0 1299 = some (.aload_n 2, 1, 0, 0, 0, 0) := by decide +kernel
theorem f0_1300 : mFetch 0 1300 = some (.aload_n 0, 1, 0, 0, 0, 0) := by decide +kernel
theorem f0_1301 : mFetch 0 1301 = some (.iload_n 3, 1, 0, 0, 0, 0) := by decide +kernel
theorem f0_1302 : mFetch 0 1302 = some (.iconst 1, 1, 0, 0, 0, 0) := by decide +kernel
theorem f0_1303 : mFetch 0 1303 = some (.iadd, 1, 0, 0, 0, 0) := by decide +kernel
theorem f0_1304 : mFetch 0 1304 = some (.iaload, 1, 0, 0, 0, 0) := by decide +kernel
theorem f0_1305 : mFetch 0 1305 = some (.invokevirtual 165, 3, 303, 0, 2, 12) := by decide +kernel
theorem f0_1308 : mFetch 0 1308 = some (.if_icmp .eq 127, 3, 1435, 0, 0, 0) := by decide +kernel
theorem f0_1311 : mFetch 0 1311 = some (.iconst 0, 1, 0, 0, 0, 0) := by decide +kernel
theorem f0_1312 : mFetch 0 1312 = some (.ireturn, 1, 0, 0, 0, 0) := by decide +kernel
theorem f0_1313 : mFetch 0 1313 = some (.aload_n 1, 1, 0, 0, 0, 0) := by decide +kernel
theorem f0_1314 : mFetch 0 1314 = some (.aload_n 0, 1, 0, 0, 0, 0) := by decide +kernel
theorem f0_1315 : mFetch 0 1315 = some (.iload_n 3, 1, 0, 0, 0, 0) := by decide +kernel
theorem f0_1316 : mFetch 0 1316 = some (.iconst 1, 1, 0, 0, 0, 0) := by decide +kernel
theorem f0_1317 : mFetch 0 1317 = some (.iadd, 1, 0, 0, 0, 0) := by decide +kernel
theorem f0_1318 : mFetch 0 1318 = some (.iaload, 1, 0, 0, 0, 0) := by decide +kernel
theorem f0_1319 : mFetch 0 1319 = some (.aload_n 0, 1, 0, 0, 0, 0) := by decide +kernel
theorem f0_1320 : mFetch 0 1320 = some (.iload_n 3, 1, 0, 0, 0, 0) := by decide +kernel
theorem f0_1321 : mFetch 0 1321 = some (.iconst 2, 1, 0, 0, 0, 0) := by decide +kernel
theorem f0_1322 : mFetch 0 1322 = some (.iadd, 1, 0, 0, 0, 0) := by decide +kernel
theorem f0_1323 : mFetch 0 1323 = some (.iaload, 1, 0, 0, 0, 0) := by decide +kernel
theorem f0_1324 : mFetch 0 1324 = some (.aload_n 0, 1, 0, 0, 0, 0) := by decide +kernel
theorem f0_1325 : mFetch 0 1325 = some (.iload_n 3, 1, 0, 0, 0, 0) := by decide +kernel
theorem f0_1326 : mFetch 0 1326 = some (.iconst 3, 1, 0, 0, 0, 0) := by decide +kernel
theorem f0_1327 : mFetch 0 1327 = some (.iadd, 1, 0, 0, 0, 0) := by decide +kernel
theorem f0_1328 : mFetch 0 1328 = some (.iaload, 1, 0, 0, 0, 0) := by decide +kernel
theorem f0_1329 : mFetch 0 1329 = some (.aload_n 0, 1, 0, 0, 0, 0) := by decide +kernel
theorem f0_1330 : mFetch 0 1330 = some (.iload_n 3, 1, 0, 0, 0, 0) := by decide +kernel
theorem f0_1331 : mFetch 0 1331 = some (.iconst 4, 1, 0, 0, 0, 0) := by decide +kernel
theorem f0_1332 : mFetch 0 1332 = some (.iadd, 1, 0, 0, 0, 0) := by decide +kernel
theorem f0_1333 : mFetch 0 1333 = some (.iaload, 1, 0, 0, 0, 0) := by decide +kernel
theorem f0_1334 : mFetch 0 1334 = some (.invokevirtual 166, 3, 159, 0, 5, 11) := by decide +kernel
theorem f0_1337 : mFetch 0 1337 = some (.aload_n 2, 1, 0, 0, 0, 0) := by decide +kernel
theorem f0_1338 : mFetch 0 1338 = some (.aload_n 0, 1, 0, 0, 0, 0) := by decide +kernel
theorem f0_1339 : mFetch 0 1339 = some (.iload_n 3, 1, 0, 0, 0, 0) := by decide +kernel
theorem f0_1340 : mFetch 0 1340 = some (.iconst 1, 1, 0, 0, 0, 0) := by decide +kernel
theorem f0_1341 : mFetch 0 1341 = some (.iadd, 1, 0, 0, 0, 0) := by decide +kernel
theorem f0_1342 : mFetch 0 1342 = some (.iaload, 1, 0, 0, 0, 0) := by decide +kernel
theorem f0_1343 : mFetch 0 1343 = some (.aload_n 0, 1, 0, 0, 0, 0) := by decide +kernel
theorem f0_1344 : mFetch 0 1344 = some (.iload_n 3, 1, 0, 0, 0, 0) := by decide +kernel
theorem f0_1345 : mFetch 0 1345 = some (.iconst 2, 1, 0, 0, 0, 0) := by decide +kernel
theorem f0_1346 : mFetch 0 1346 = some (.iadd, 1, 0, 0, 0, 0) := by decide +kernel
theorem f0_1347 : mFetch 0 1347 = some (.iaload, 1, 0, 0, 0, 0) := by decide +kernel
theorem f0_1348 : mFetch 0 1348 = some (.aload_n 0, 1, 0, 0, 0, 0) := by decide +kernel
theorem f0_1349 : mFetch 0 1349 = some (.iload_n 3, 1, 0, 0, 0, 0) := by decide +kernel
theorem f0_1350 : mFetch 0 1350 = some (.iconst 3, 1, 0, 0, 0, 0) := by decide +kernel
theorem f0_1351 : mFetch 0 1351 = some (.iadd, 1, 0, 0, 0, 0) := by decide +kernel
theorem f0_1352 : mFetch 0 1352 = some (.iaload, 1, 0, 0, 0, 0) := by decide +kernel
theorem f0_1353 : mFetch 0 1353 = some (.aload_n 0, 1, 0, 0, 0, 0) := by decide +kernel
theorem f0_1354 : mFetch 0 1354 = some (.iload_n 3, 1, 0, 0, 0, 0) := by decide +kernel
theorem f0_1355 : mFetch 0 1355 = some (.iconst 4, 1, 0, 0, 0, 0) := by decide +kernel
theorem f0_1356 : mFetch 0 1356 = some (.iadd, 1, 0, 0, 0, 0) := by decide +kernel
theorem f0_1357 : mFetch 0 1357 = some (.iaload, 1, 0, 0, 0, 0) := by decide +kernel
theorem f0_1358 : mFetch 0 1358 = some (.invokevirtual 170, 3, 305, 0, 5, 12) := by decide +kernel
theorem f0_1361 : mFetch 0 1361 = some (.if_icmp .eq 74, 3, 1435, 0, 0, 0) := by decide +kernel
theorem f0_1364 : mFetch 0 1364 = some (.iconst 0, 1, 0, 0, 0, 0) := by decide +kernel
theorem f0_1365 : mFetch 0 1365 = some (.ireturn, 1, 0, 0, 0, 0) := by decide +kernel
theorem f0_1366 : mFetch 0 1366 = some (.aload_n 1, 1, 0, 0, 0, 0) := by decide +kernel
theorem f0_1367 : mFetch 0 1367 = some (.aload_n 0, 1, 0, 0, 0, 0) := by decide +kernel
theorem f0_1368 : mFetch 0 1368 = some (.iload_n 3, 1, 0, 0, 0, 0) := by decide +kernel
theorem f0_1369 : mFetch 0 1369 = some (.iconst 1, 1, 0, 0, 0, 0) := by decide +kernel
theorem f0_1370 : mFetch 0 1370 = some (.iadd, 1, 0, 0, 0, 0) := by decide +kernel
theorem f0_1371 : mFetch 0 1371 = some (.iaload, 1, 0, 0, 0, 0) := by decide +kernel
theorem f0_1372 : mFetch 0 1372 = some (.invokevirtual 171, 3, 160, 0, 2, 11) := by decide +kernel
theorem f0_1375 : mFetch 0 1375 = some (.aload_n 2, 1, 0, 0, 0, 0) := by decide +kernel
theorem f0_1376 : mFetch 0 1376 = some (.aload_n 0, 1, 0, 0, 0, 0) := by decide +kernel
theorem f0_1377 : mFetch 0 1377 = some (.iload_n 3, 1, 0, 0, 0, 0) := by decide +kernel
theorem f0_1378 : mFetch 0 1378 = some (.iconst 1, 1, 0, 0, 0, 0) := by decide +kernel
theorem f0_1379 : mFetch 0 1379 = some (.iadd, 1, 0, 0, 0, 0) := by decide +kernel
theorem f0_1380 : mFetch 0 1380 = some (.iaload, 1, 0, 0, 0, 0) := by decide +kernel
theorem f0_1381 : mFetch 0 1381 = some (.invokevirtual 174, 3, 306, 0, 2, 12) := by decide +kernel
theorem f0_1384 : mFetch 0 1384 = some (.if_icmp .eq 51, 3, 1435, 0, 0, 0) := by decide +kernel
theorem f0_1387 : mFetch 0 1387 = some (.iconst 0, 1, 0, 0, 0, 0) := by decide +kernel
theorem f0_1388 : mFetch 0 1388 = some (.ireturn, 1, 0, 0, 0, 0) := by decide +kernel
theorem f0_1389 : mFetch 0 1389 = some (.aload_n 1, 1, 0, 0, 0, 0) := by decide +kernel
theorem f0_1390 : mFetch 0 1390 = some (.aload_n 0, 1, 0, 0, 0, 0) := by decide +kernel
theorem f0_1391 : mFetch 0 1391 = some (.iload_n 3, 1, 0, 0, 0, 0) := by decide +kernel
theorem f0_1392 : mFetch 0 1392 = some (.iconst 1, 1, 0, 0, 0, 0) := by decide +kernel
theorem f0_1393 : mFetch 0 1393 = some (.iadd, 1, 0, 0, 0, 0) := by decide +kernel
theorem f0_1394 : mFetch 0 1394 = some (.iaload, 1, 0, 0, 0, 0) := by decide +kernel
theorem f0_1395 : mFetch 0 1395 = some (.invokevirtual 175, 3, 161, 0, 2, 11) := by decide +kernel
theorem f0_1398 : mFetch 0 1398 = some (.aload_n 2, 1, 0, 0, 0, 0) := by decide +kernel
theorem f0_1399 : mFetch 0 1399 = some (.aload_n 0, 1, 0, 0, 0, 0) := by decide +kernel
theorem f0_1400 : mFetch 0 1400 = some (.iload_n 3, 1, 0, 0, 0, 0) := by decide +kernel
theorem f0_1401 : mFetch 0 1401 = some (.iconst 1, 1, 0, 0, 0, 0) := by decide +kernel
theorem f0_1402 : mFetch 0 1402 = some (.iadd, 1, 0, 0, 0, 0) := by decide +kernel
theorem f0_1403 : mFetch 0 1403 = some (.iaload, 1, 0, 0, 0, 0) := by decide +kernel
theorem f0_1404 : mFetch 0 1404 = some (.invokevirtual 178, 3, 307, 0, 2, 12) := by decide +kernel
theorem f0_1407 : mFetch 0 1407 = some (.if_icmp .eq 28, 3, 1435, 0, 0, 0) := by decide +kernel
theorem f0_1410 : mFetch 0 1410 = some (.iconst 0, 1, 0, 0, 0, 0) := by decide +kernel
theorem f0_1411 : mFetch 0 1411 = some (.ireturn, 1, 0, 0, 0, 0) := by decide +kernel
theorem f0_1412 : mFetch 0 1412 = some (.aload_n 1, 1, 0, 0, 0, 0) := by decide +kernel
theorem f0_1413 : mFetch 0 1413 = some (.aload_n 0, 1, 0, 0, 0, 0) := by decide +kernel
theorem f0_1414 : mFetch 0 1414 = some (.iload_n 3, 1, 0, 0, 0, 0) := by decide +kernel
theorem f0_1415 : mFetch 0 1415 = some (.iconst 1, 1, 0, 0, 0, 0) := by decide +kernel
theorem f0_1416 : mFetch 0 1416 = some (.iadd, 1, 0, 0, 0, 0) := by decide +kernel
theorem f0_1417 : mFetch 0 1417 = some (.iaload, 1, 0, 0, 0, 0) := by decide +kernel
theorem f0_1418 : mFetch 0 1418 = some (.invokevirtual 179, 3, 162, 0, 2, 11) := by decide +kernel
theorem f0_1421 : mFetch 0 1421 = some (.aload_n 2, 1, 0, 0, 0, 0) := by decide +kernel
theorem f0_1422 : mFetch 0 1422 = some (.aload_n 0, 1, 0, 0, 0, 0) := by decide +kernel
theorem f0_1423 : mFetch 0 1423 = some (.iload_n 3, 1, 0, 0, 0, 0) := by decide +kernel
theorem f0_1424 : mFetch 0 1424 = some (.iconst 1, 1, 0, 0, 0, 0) := by decide +kernel
theorem f0_1425 : mFetch 0 1425 = some (.iadd, 1, 0, 0, 0, 0) := by decide +kernel
theorem f0_1426 : mFetch 0 1426 = some (.iaload, 1, 0, 0, 0, 0) := by decide +kernel
theorem f0_1427 : mFetch 0 1427 = some (.invokevirtual 182, 3, 308, 0, 2, 12) := by decide +kernel
theorem f0_1430 : mFetch 0 1430 = some (.if_icmp .eq 5, 3, 1435, 0, 0, 0) := by decide +kernel
theorem f0_1433 : mFetch 0 1433 = some (.iconst 0, 1, 0, 0, 0, 0) := by decide +kernel
theorem f0_1434 : mFetch 0 1434 = some (.ireturn, 1, 0, 0, 0, 0) := by decide +kernel
theorem f0_1435 : mFetch 0 1435 = some (.iinc 3 6, 3, 0, 0, 0, 0) := by decide +kernel
theorem f0_1438 : mFetch 0 1438 = some (.goto (-1420), 3, 18, 0, 0, 0) := by decide +kernel
theorem f0_1441 : mFetch 0 1441 = some (.iconst 1, 1, 0, 0, 0, 0) := by decide +kernel
theorem f0_1442 : mFetch 0 1442 = some (.ireturn, 1, 0, 0, 0, 0) := by decide +kernel
theorem w0_0 {X : (Nat → Int) × Nat} {d : Nat} {s : mSt} {Q : mQ} {i : Int} (a1 : 0 ≤ w32 (i + 1) ∧ w32 (i + 1) < X.2) (a2 : 0 ≤ w32 (i + 2) ∧ w32 (i + 2) < X.2) (a3 : 0 ≤ w32 (i + 3) ∧ w32 (i + 3) < X.2) (a4 : 0 ≤ w32 (i + 4) ∧ w32 (i + 4) < X.2) (a5 : 0 ≤ w32 (i + 5) ∧ w32 (i + 5) < X.2) (h : Sp X d 122 [mR 0, mI (X.1 (w32 (i + 1)).toNat), mI (X.1 (w32 (i + 2)).toNat), mI (X.1 (w32 (i + 3)).toNat), mI (X.1 (w32 (i + 4)).toNat), mI (X.1 (w32 (i + 5)).toNat)] s (fun r t => ∃ v : Int, r = some (mI v) ∧ Sp X d 171 [mR 407, mI (X.1 (w32 (i + 1)).toNat), mI (X.1 (w32 (i + 2)).toNat), mI (X.1 (w32 (i + 3)).toNat), mI (X.1 (w32 (i + 4)).toNat), mI (X.1 (w32 (i + 5)).toNat)] t (fun r u => ∃ v' : Int, r = some (mI v') ∧ v = v' ∧ Wp X (d + 1) 0 1435 [some (mX 0), some (mR 0), some (mR 407), some (mI i)] [] u Q))) : Wp X (d + 1) 0 212 [some (mX 0), some (mR 0), some (mR 407), some (mI i)] [] s Q :=
  have g : ∀ (v : Int) (t : mSt), Sp X d 171 [mR 407, mI (X.1 (w32 (i + 1)).toNat), mI (X.1 (w32 (i + 2)).toNat), mI (X.1 (w32 (i + 3)).toNat), mI (X.1 (w32 (i + 4)).toNat), mI (X.1 (w32 (i + 5)).toNat)] t (fun r u => ∃ v' : Int, r = some (mI v') ∧ v = v' ∧ Wp X (d + 1) 0 1435 [some (mX 0), some (mR 0), some (mR 407), some (mI i)] [] u Q) → Wp X (d + 1) 0 241 [some (mX 0), some (mR 0), some (mR 407), some (mI i)] [mI v] t Q := fun v t h2 =>
    have h3 : Sp X d 171 [mR 407, mI (X.1 (w32 (i + 1)).toNat), mI (X.1 (w32 (i + 2)).toNat), mI (X.1 (w32 (i + 3)).toNat), mI (X.1 (w32 (i + 4)).toNat), mI (X.1 (w32 (i + 5)).toNat)] t (fun r u => ∃ v' : Int, r = some (mI v') ∧ Wp X (d + 1) 0 270 [some (mX 0), some (mR 0), some (mR 407), some (mI i)] [mI v', mI v] u Q) := h2.imp (fun r u ⟨v', e, e2, z⟩ => ⟨v', e, Wp_step0 f0_270 ⟨fun _ => z, fun y => absurd e2 y⟩⟩)
    Wp_step0 f0_241 (Wp_step0 f0_242 (Wp_step0 f0_243 (Wp_step0 f0_244 (Wp_step0 f0_245 (Wp_step0 f0_246 ⟨rfl, a1.1, a1.2, Wp_step0 f0_247 (Wp_step0 f0_248 (Wp_step0 f0_249 (Wp_step0 f0_250 (Wp_step0 f0_251 ⟨rfl, a2.1, a2.2, Wp_step0 f0_252 (Wp_step0 f0_253 (Wp_step0 f0_254 (Wp_step0 f0_255 (Wp_step0 f0_256 ⟨rfl, a3.1, a3.2, Wp_step0 f0_257 (Wp_step0 f0_258 (Wp_step0 f0_259 (Wp_step0 f0_260 (Wp_step0 f0_261 ⟨rfl, a4.1, a4.2, Wp_step0 f0_262 (Wp_step0 f0_263 (Wp_step0 f0_264 (Wp_step0 f0_265 (Wp_step0 f0_266 ⟨rfl, a5.1, a5.2, Wp_step0 f0_267 ⟨⟨kf_407, Nat.le_of_ble_eq_true rfl⟩, Nat.le_refl _, _, rfl, Sp_E h3⟩⟩))))⟩))))⟩))))⟩))))⟩)))))
  have h1 : Sp X d 122 [mR 0, mI (X.1 (w32 (i + 1)).toNat), mI (X.1 (w32 (i + 2)).toNat), mI (X.1 (w32 (i + 3)).toNat), mI (X.1 (w32 (i + 4)).toNat), mI (X.1 (w32 (i + 5)).toNat)] s (fun r t => ∃ v : Int, r = some (mI v) ∧ Wp X (d + 1) 0 241 [some (mX 0), some (mR 0), some (mR 407), some (mI i)] [mI v] t Q) := h.imp (fun r t ⟨v, e, z⟩ => ⟨v, e, g v t z⟩)
  Wp_step0 f0_212 (Wp_step0 f0_213 (Wp_step0 f0_214 (Wp_step0 f0_215 (Wp_step0 f0_216 (Wp_step0 f0_217 ⟨rfl, a1.1, a1.2, Wp_step0 f0_218 (Wp_step0 f0_219 (Wp_step0 f0_220 (Wp_step0 f0_221 (Wp_step0 f0_222 ⟨rfl, a2.1, a2.2, Wp_step0 f0_223 (Wp_step0 f0_224 (Wp_step0 f0_225 (Wp_step0 f0_226 (Wp_step0 f0_227 ⟨rfl, a3.1, a3.2, Wp_step0 f0_228 (Wp_step0 f0_229 (Wp_step0 f0_230 (Wp_step0 f0_231 (Wp_step0 f0_232 ⟨rfl, a4.1, a4.2, Wp_step0 f0_233 (Wp_step0 f0_234 (Wp_step0 f0_235 (Wp_step0 f0_236 (Wp_step0 f0_237 ⟨rfl, a5.1, a5.2, Wp_step0 f0_238 ⟨⟨kf_0, Nat.le_of_ble_eq_true rfl⟩, Nat.le_refl _, _, rfl, Sp_E h1⟩⟩))))⟩))))⟩))))⟩))))⟩)))))
theorem w0_1 {X : (Nat → Int) × Nat} {d : Nat} {s : mSt} {Q : mQ} {i : Int} (a1 : 0 ≤ w32 (i + 1) ∧ w32 (i + 1) < X.2) (h : Sp X d 123 [mR 0, mI (X.1 (w32 (i + 1)).toNat)] s (fun r t => ∃ v : Int, r = some (mI v) ∧ Sp X d 172 [mR 407, mI (X.1 (w32 (i + 1)).toNat)] t (fun r u => ∃ v' : Int, r = some (mI v') ∧ v = v' ∧ Wp X (d + 1) 0 1435 [some (mX 0), some (mR 0), some (mR 407), some (mI i)] [] u Q))) : Wp X (d + 1) 0 275 [some (mX 0), some (mR 0), some (mR 407), some (mI i)] [] s Q :=
  have g : ∀ (v : Int) (t : mSt), Sp X d 172 [mR 407, mI (X.1 (w32 (i + 1)).toNat)] t (fun r u => ∃ v' : Int, r = some (mI v') ∧ v = v' ∧ Wp X (d + 1) 0 1435 [some (mX 0), some (mR 0), some (mR 407), some (mI i)] [] u Q) → Wp X (d + 1) 0 284 [some (mX 0), some (mR 0), some (mR 407), some (mI i)] [mI v] t Q := fun v t h2 =>
    have h3 : Sp X d 172 [mR 407, mI (X.1 (w32 (i + 1)).toNat)] t (fun r u => ∃ v' : Int, r = some (mI v') ∧ Wp X (d + 1) 0 293 [some (mX 0), some (mR 0), some (mR 407), some (mI i)] [mI v', mI v] u Q) := h2.imp (fun r u ⟨v', e, e2, z⟩ => ⟨v', e, Wp_step0 f0_293 ⟨fun _ => z, fun y => absurd e2 y⟩⟩)
    Wp_step0 f0_284 (Wp_step0 f0_285 (Wp_step0 f0_286 (Wp_step0 f0_287 (Wp_step0 f0_288 (Wp_step0 f0_289 ⟨rfl, a1.1, a1.2, Wp_step0 f0_290 ⟨⟨kf_407, Nat.le_of_ble_eq_true rfl⟩, Nat.le_refl _, _, rfl, Sp_E h3⟩⟩)))))
  have h1 : Sp X d 123 [mR 0, mI (X.1 (w32 (i + 1)).toNat)] s (fun r t => ∃ v : Int, r = some (mI v) ∧ Wp X (d + 1) 0 284 [some (mX 0), some (mR 0), some (mR 407), some (mI i)] [mI v] t Q) := h.imp (fun r t ⟨v, e, z⟩ => ⟨v, e, g v t z⟩)
  Wp_step0 f0_275 (Wp_step0 f0_276 (Wp_step0 f0_277 (Wp_step0 f0_278 (Wp_step0 f0_279 (Wp_step0 f0_280 ⟨rfl, a1.1, a1.2, Wp_step0 f0_281 ⟨⟨kf_0, Nat.le_of_ble_eq_true rfl⟩, Nat.le_refl _, _, rfl, Sp_E h1⟩⟩)))))
theorem w0_2 {X : (Nat → Int) × Nat} {d : Nat} {s : mSt} {Q : mQ} {i : Int} (h : Sp X d 124 [mR 0] s (fun r t => ∃ v : Int, r = some (mI v) ∧ Sp X d 206 [mR 407] t (fun r u => ∃ v' : Int, r = some (mI v') ∧ v = v' ∧ Wp X (d + 1) 0 1435 [some (mX 0), some (mR 0), some (mR 407), some (mI i)] [] u Q))) : Wp X (d + 1) 0 298 [some (mX 0), some (mR 0), some (mR 407), some (mI i)] [] s Q :=
  have g : ∀ (v : Int) (t : mSt), Sp X d 206 [mR 407] t (fun r u => ∃ v' : Int, r = some (mI v') ∧ v = v' ∧ Wp X (d + 1) 0 1435 [some (mX 0), some (mR 0), some (mR 407), some (mI i)] [] u Q) → Wp X (d + 1) 0 302 [some (mX 0), some (mR 0), some (mR 407), some (mI i)] [mI v] t Q := fun v t h2 =>
    have h3 : Sp X d 206 [mR 407] t (fun r u => ∃ v' : Int, r = some (mI v') ∧ Wp X (d + 1) 0 306 [some (mX 0), some (mR 0), some (mR 407), some (mI i)] [mI v', mI v] u Q) := h2.imp (fun r u ⟨v', e, e2, z⟩ => ⟨v', e, Wp_step0 f0_306 ⟨fun _ => z, fun y => absurd e2 y⟩⟩)
    Wp_step0 f0_302 (Wp_step0 f0_303 ⟨⟨kf_407, Nat.le_of_ble_eq_true rfl⟩, Nat.le_refl _, _, rfl, Sp_E h3⟩)
  have h1 : Sp X d 124 [mR 0] s (fun r t => ∃ v : Int, r = some (mI v) ∧ Wp X (d + 1) 0 302 [some (mX 0), some (mR 0), some (mR 407), some (mI i)] [mI v] t Q) := h.imp (fun r t ⟨v, e, z⟩ => ⟨v, e, g v t z⟩)
  Wp_step0 f0_298 (Wp_step0 f0_299 ⟨⟨kf_0, Nat.le_of_ble_eq_true rfl⟩, Nat.le_refl _, _, rfl, Sp_E h1⟩)
theorem w0_3 {X : (Nat → Int) × Nat} {d : Nat} {s : mSt} {Q : mQ} {i : Int} (h : Sp X d 125 [mR 0] s (fun r t => ∃ v : Int, r = some (mI v) ∧ Sp X d 205 [mR 407] t (fun r u => ∃ v' : Int, r = some (mI v') ∧ v = v' ∧ Wp X (d + 1) 0 1435 [some (mX 0), some (mR 0), some (mR 407), some (mI i)] [] u Q))) : Wp X (d + 1) 0 311 [some (mX 0), some (mR 0), some (mR 407), some (mI i)] [] s Q :=
  have g : ∀ (v : Int) (t : mSt), Sp X d 205 [mR 407] t (fun r u => ∃ v' : Int, r = some (mI v') ∧ v = v' ∧ Wp X (d + 1) 0 1435 [some (mX 0), some (mR 0), some (mR 407), some (mI i)] [] u Q) → Wp X (d + 1) 0 315 [some (mX 0), some (mR 0), some (mR 407), some (mI i)] [mI v] t Q := fun v t h2 =>
    have h3 : Sp X d 205 [mR 407] t (fun r u => ∃ v' : Int, r = some (mI v') ∧ Wp X (d + 1) 0 319 [some (mX 0), some (mR 0), some (mR 407), some (mI i)] [mI v', mI v] u Q) := h2.imp (fun r u ⟨v', e, e2, z⟩ => ⟨v', e, Wp_step0 f0_319 ⟨fun _ => z, fun y => absurd e2 y⟩⟩)
    Wp_step0 f0_315 (Wp_step0 f0_316 ⟨⟨kf_407, Nat.le_of_ble_eq_true rfl⟩, Nat.le_refl _, _, rfl, Sp_E h3⟩)
  have h1 : Sp X d 125 [mR 0] s (fun r t => ∃ v : Int, r = some (mI v) ∧ Wp X (d + 1) 0 315 [some (mX 0), some (mR 0), some (mR 407), some (mI i)] [mI v] t Q) := h.imp (fun r t ⟨v, e, z⟩ => ⟨v, e, g v t z⟩)
  Wp_step0 f0_311 (Wp_step0 f0_312 ⟨⟨kf_0, Nat.le_of_ble_eq_true rfl⟩, Nat.le_refl _, _, rfl, Sp_E h1⟩)
theorem w0_4 {X : (Nat → Int) × Nat} {d : Nat} {s : mSt} {Q : mQ} {i : Int} (a1 : 0 ≤ w32 (i + 1) ∧ w32 (i + 1) < X.2) (h : Sp X d 126 [mR 0, mI (X.1 (w32 (i + 1)).toNat)] s (fun r t => ∃ v : Int, r = some (mI v) ∧ Sp X d 228 [mR 407, mI (X.1 (w32 (i + 1)).toNat)] t (fun r u => ∃ v' : Int, r = some (mI v') ∧ v = v' ∧ Wp X (d + 1) 0 1435 [some (mX 0), some (mR 0), some (mR 407), some (mI i)] [] u Q))) : Wp X (d + 1) 0 324 [some (mX 0), some (mR 0), some (mR 407), some (mI i)] [] s Q :=
  have g : ∀ (v : Int) (t : mSt), Sp X d 228 [mR 407, mI (X.1 (w32 (i + 1)).toNat)] t (fun r u => ∃ v' : Int, r = some (mI v') ∧ v = v' ∧ Wp X (d + 1) 0 1435 [some (mX 0), some (mR 0), some (mR 407), some (mI i)] [] u Q) → Wp X (d + 1) 0 333 [some (mX 0), some (mR 0), some (mR 407), some (mI i)] [mI v] t Q := fun v t h2 =>
    have h3 : Sp X d 228 [mR 407, mI (X.1 (w32 (i + 1)).toNat)] t (fun r u => ∃ v' : Int, r = some (mI v') ∧ Wp X (d + 1) 0 342 [some (mX 0), some (mR 0), some (mR 407), some (mI i)] [mI v', mI v] u Q) := h2.imp (fun r u ⟨v', e, e2, z⟩ => ⟨v', e, Wp_step0 f0_342 ⟨fun _ => z, fun y => absurd e2 y⟩⟩)
    Wp_step0 f0_333 (Wp_step0 f0_334 (Wp_step0 f0_335 (Wp_step0 f0_336 (Wp_step0 f0_337 (Wp_step0 f0_338 ⟨rfl, a1.1, a1.2, Wp_step0 f0_339 ⟨⟨kf_407, Nat.le_of_ble_eq_true rfl⟩, Nat.le_refl _, _, rfl, Sp_E h3⟩⟩)))))
  have h1 : Sp X d 126 [mR 0, mI (X.1 (w32 (i + 1)).toNat)] s (fun r t => ∃ v : Int, r = some (mI v) ∧ Wp X (d + 1) 0 333 [some (mX 0), some (mR 0), some (mR 407), some (mI i)] [mI v] t Q) := h.imp (fun r t ⟨v, e, z⟩ => ⟨v, e, g v t z⟩)
  Wp_step0 f0_324 (Wp_step0 f0_325 (Wp_step0 f0_326 (Wp_step0 f0_327 (Wp_step0 f0_328 (Wp_step0 f0_329 ⟨rfl, a1.1, a1.2, Wp_step0 f0_330 ⟨⟨kf_0, Nat.le_of_ble_eq_true rfl⟩, Nat.le_refl _, _, rfl, Sp_E h1⟩⟩)))))
theorem w0_5 {X : (Nat → Int) × Nat} {d : Nat} {s : mSt} {Q : mQ} {i : Int} (a1 : 0 ≤ w32 (i + 1) ∧ w32 (i + 1) < X.2) (a2 : 0 ≤ w32 (i + 2) ∧ w32 (i + 2) < X.2) (h : Sp X d 127 [mR 0, mI (X.1 (w32 (i + 1)).toNat), mI (X.1 (w32 (i + 2)).toNat)] s (fun r t => ∃ v : Int, r = some (mI v) ∧ Sp X d 229 [mR 407, mI (X.1 (w32 (i + 1)).toNat), mI (X.1 (w32 (i + 2)).toNat)] t (fun r u => ∃ v' : Int, r = some (mI v') ∧ v = v' ∧ Wp X (d + 1) 0 1435 [some (mX 0), some (mR 0), some (mR 407), some (mI i)] [] u Q))) : Wp X (d + 1) 0 347 [some (mX 0), some (mR 0), some (mR 407), some (mI i)] [] s Q :=
  have g : ∀ (v : Int) (t : mSt), Sp X d 229 [mR 407, mI (X.1 (w32 (i + 1)).toNat), mI (X.1 (w32 (i + 2)).toNat)] t (fun r u => ∃ v' : Int, r = some (mI v') ∧ v = v' ∧ Wp X (d + 1) 0 1435 [some (mX 0), some (mR 0), some (mR 407), some (mI i)] [] u Q) → Wp X (d + 1) 0 361 [some (mX 0), some (mR 0), some (mR 407), some (mI i)] [mI v] t Q := fun v t h2 =>
    have h3 : Sp X d 229 [mR 407, mI (X.1 (w32 (i + 1)).toNat), mI (X.1 (w32 (i + 2)).toNat)] t (fun r u => ∃ v' : Int, r = some (mI v') ∧ Wp X (d + 1) 0 375 [some (mX 0), some (mR 0), some (mR 407), some (mI i)] [mI v', mI v] u Q) := h2.imp (fun r u ⟨v', e, e2, z⟩ => ⟨v', e, Wp_step0 f0_375 ⟨fun _ => z, fun y => absurd e2 y⟩⟩)
    Wp_step0 f0_361 (Wp_step0 f0_362 (Wp_step0 f0_363 (Wp_step0 f0_364 (Wp_step0 f0_365 (Wp_step0 f0_366 ⟨rfl, a1.1, a1.2, Wp_step0 f0_367 (Wp_step0 f0_368 (Wp_step0 f0_369 (Wp_step0 f0_370 (Wp_step0 f0_371 ⟨rfl, a2.1, a2.2, Wp_step0 f0_372 ⟨⟨kf_407, Nat.le_of_ble_eq_true rfl⟩, Nat.le_refl _, _, rfl, Sp_E h3⟩⟩))))⟩)))))
  have h1 : Sp X d 127 [mR 0, mI (X.1 (w32 (i + 1)).toNat), mI (X.1 (w32 (i + 2)).toNat)] s (fun r t => ∃ v : Int, r = some (mI v) ∧ Wp X (d + 1) 0 361 [some (mX 0), some (mR 0), some (mR 407), some (mI i)] [mI v] t Q) := h.imp (fun r t ⟨v, e, z⟩ => ⟨v, e, g v t z⟩)
  Wp_step0 f0_347 (Wp_step0 f0_348 (Wp_step0 f0_349 (Wp_step0 f0_350 (Wp_step0 f0_351 (Wp_step0 f0_352 ⟨rfl, a1.1, a1.2, Wp_step0 f0_353 (Wp_step0 f0_354 (Wp_step0 f0_355 (Wp_step0 f0_356 (Wp_step0 f0_357 ⟨rfl, a2.1, a2.2, Wp_step0 f0_358 ⟨⟨kf_0, Nat.le_of_ble_eq_true rfl⟩, Nat.le_refl _, _, rfl, Sp_E h1⟩⟩))))⟩)))))
theorem w0_6 {X : (Nat → Int) × Nat} {d : Nat} {s : mSt} {Q : mQ} {i : Int} (a1 : 0 ≤ w32 (i + 1) ∧ w32 (i + 1) < X.2) (a2 : 0 ≤ w32 (i + 2) ∧ w32 (i + 2) < X.2) (h : Sp X d 128 [mR 0, mI (X.1 (w32 (i + 1)).toNat), mI (X.1 (w32 (i + 2)).toNat)] s (fun r t => ∃ v : Int, r = some (mI v) ∧ Sp X d 230 [mR 407, mI (X.1 (w32 (i + 1)).toNat), mI (X.1 (w32 (i + 2)).toNat)] t (fun r u => ∃ v' : Int, r = some (mI v') ∧ v = v' ∧ Wp X (d + 1) 0 1435 [some (mX 0), some (mR 0), some (mR 407), some (mI i)] [] u Q))) : Wp X (d + 1) 0 380 [some (mX 0), some (mR 0), some (mR 407), some (mI i)] [] s Q :=
  have g : ∀ (v : Int) (t : mSt), Sp X d 230 [mR 407, mI (X.1 (w32 (i + 1)).toNat), mI (X.1 (w32 (i + 2)).toNat)] t (fun r u => ∃ v' : Int, r = some (mI v') ∧ v = v' ∧ Wp X (d + 1) 0 1435 [some (mX 0), some (mR 0), some (mR 407), some (mI i)] [] u Q) → Wp X (d + 1) 0 394 [some (mX 0), some (mR 0), some (mR 407), some (mI i)] [mI v] t Q := fun v t h2 =>
    have h3 : Sp X d 230 [mR 407, mI (X.1 (w32 (i + 1)).toNat), mI (X.1 (w32 (i + 2)).toNat)] t (fun r u => ∃ v' : Int, r = some (mI v') ∧ Wp X (d + 1) 0 408 [some (mX 0), some (mR 0), some (mR 407), some (mI i)] [mI v', mI v] u Q) := h2.imp (fun r u ⟨v', e, e2, z⟩ => ⟨v', e, Wp_step0 f0_408 ⟨fun _ => z, fun y => absurd e2 y⟩⟩)
    Wp_step0 f0_394 (Wp_step0 f0_395 (Wp_step0 f0_396 (Wp_step0 f0_397 (Wp_step0 f0_398 (Wp_step0 f0_399 ⟨rfl, a1.1, a1.2, Wp_step0 f0_400 (Wp_step0 f0_401 (Wp_step0 f0_402 (Wp_step0 f0_403 (Wp_step0 f0_404 ⟨rfl, a2.1, a2.2, Wp_step0 f0_405 ⟨⟨kf_407, Nat.le_of_ble_eq_true rfl⟩, Nat.le_refl _, _, rfl, Sp_E h3⟩⟩))))⟩)))))
  have h1 : Sp X d 128 [mR 0, mI (X.1 (w32 (i + 1)).toNat), mI (X.1 (w32 (i + 2)).toNat)] s (fun r t => ∃ v : Int, r = some (mI v) ∧ Wp X (d + 1) 0 394 [some (mX 0), some (mR 0), some (mR 407), some (mI i)] [mI v] t Q) := h.imp (fun r t ⟨v, e, z⟩ => ⟨v, e, g v t z⟩)
  Wp_step0 f0_380 (Wp_step0 f0_381 (Wp_step0 f0_382 (Wp_step0 f0_383 (Wp_step0 f0_384 (Wp_step0 f0_385 ⟨rfl, a1.1, a1.2, Wp_step0 f0_386 (Wp_step0 f0_387 (Wp_step0 f0_388 (Wp_step0 f0_389 (Wp_step0 f0_390 ⟨rfl, a2.1, a2.2, Wp_step0 f0_391 ⟨⟨kf_0, Nat.le_of_ble_eq_true rfl⟩, Nat.le_refl _, _, rfl, Sp_E h1⟩⟩))))⟩)))))
theorem w0_7 {X : (Nat → Int) × Nat} {d : Nat} {s : mSt} {Q : mQ} {i : Int} (a1 : 0 ≤ w32 (i + 1) ∧ w32 (i + 1) < X.2) (h : Sp X d 129 [mR 0, mI (X.1 (w32 (i + 1)).toNat)] s (fun r t => ∃ v : Int, r = some (mI v) ∧ Sp X d 231 [mR 407, mI (X.1 (w32 (i + 1)).toNat)] t (fun r u => ∃ v' : Int, r = some (mI v') ∧ v = v' ∧ Wp X (d + 1) 0 1435 [some (mX 0), some (mR 0), some (mR 407), some (mI i)] [] u Q))) : Wp X (d + 1) 0 413 [some (mX 0), some (mR 0), some (mR 407), some (mI i)] [] s Q :=
  have g : ∀ (v : Int) (t : mSt), Sp X d 231 [mR 407, mI (X.1 (w32 (i + 1)).toNat)] t (fun r u => ∃ v' : Int, r = some (mI v') ∧ v = v' ∧ Wp X (d + 1) 0 1435 [some (mX 0), some (mR 0), some (mR 407), some (mI i)] [] u Q) → Wp X (d + 1) 0 422 [some (mX 0), some (mR 0), some (mR 407), some (mI i)] [mI v] t Q := fun v t h2 =>
    have h3 : Sp X d 231 [mR 407, mI (X.1 (w32 (i + 1)).toNat)] t (fun r u => ∃ v' : Int, r = some (mI v') ∧ Wp X (d + 1) 0 431 [some (mX 0), some (mR 0), some (mR 407), some (mI i)] [mI v', mI v] u Q) := h2.imp (fun r u ⟨v', e, e2, z⟩ => ⟨v', e, Wp_step0 f0_431 ⟨fun _ => z, fun y => absurd e2 y⟩⟩)
    Wp_step0 f0_422 (Wp_step0 f0_423 (Wp_step0 f0_424 (Wp_step0 f0_425 (Wp_step0 f0_426 (Wp_step0 f0_427 ⟨rfl, a1.1, a1.2, Wp_step0 f0_428 ⟨⟨kf_407, Nat.le_of_ble_eq_true rfl⟩, Nat.le_refl _, _, rfl, Sp_E h3⟩⟩)))))
  have h1 : Sp X d 129 [mR 0, mI (X.1 (w32 (i + 1)).toNat)] s (fun r t => ∃ v : Int, r = some (mI v) ∧ Wp X (d + 1) 0 422 [some (mX 0), some (mR 0), some (mR 407), some (mI i)] [mI v] t Q) := h.imp (fun r t ⟨v, e, z⟩ => ⟨v, e, g v t z⟩)
  Wp_step0 f0_413 (Wp_step0 f0_414 (Wp_step0 f0_415 (Wp_step0 f0_416 (Wp_step0 f0_417 (Wp_step0 f0_418 ⟨rfl, a1.1, a1.2, Wp_step0 f0_419 ⟨⟨kf_0, Nat.le_of_ble_eq_true rfl⟩, Nat.le_refl _, _, rfl, Sp_E h1⟩⟩)))))
theorem w0_8 {X : (Nat → Int) × Nat} {d : Nat} {s : mSt} {Q : mQ} {i : Int} (a1 : 0 ≤ w32 (i + 1) ∧ w32 (i + 1) < X.2) (a2 : 0 ≤ w32 (i + 2) ∧ w32 (i + 2) < X.2) (h : Sp X d 130 [mR 0, mI (X.1 (w32 (i + 1)).toNat), mI (X.1 (w32 (i + 2)).toNat)] s (fun r t => ∃ v : Int, r = some (mI v) ∧ Sp X d 232 [mR 407, mI (X.1 (w32 (i + 1)).toNat), mI (X.1 (w32 (i + 2)).toNat)] t (fun r u => ∃ v' : Int, r = some (mI v') ∧ v = v' ∧ Wp X (d + 1) 0 1435 [some (mX 0), some (mR 0), some (mR 407), some (mI i)] [] u Q))) : Wp X (d + 1) 0 436 [some (mX 0), some (mR 0), some (mR 407), some (mI i)] [] s Q :=
  have g : ∀ (v : Int) (t : mSt), Sp X d 232 [mR 407, mI (X.1 (w32 (i + 1)).toNat), mI (X.1 (w32 (i + 2)).toNat)] t (fun r u => ∃ v' : Int, r = some (mI v') ∧ v = v' ∧ Wp X (d + 1) 0 1435 [some (mX 0), some (mR 0), some (mR 407), some (mI i)] [] u Q) → Wp X (d + 1) 0 450 [some (mX 0), some (mR 0), some (mR 407), some (mI i)] [mI v] t Q := fun v t h2 =>
    have h3 : Sp X d 232 [mR 407, mI (X.1 (w32 (i + 1)).toNat), mI (X.1 (w32 (i + 2)).toNat)] t (fun r u => ∃ v' : Int, r = some (mI v') ∧ Wp X (d + 1) 0 464 [some (mX 0), some (mR 0), some (mR 407), some (mI i)] [mI v', mI v] u Q) := h2.imp (fun r u ⟨v', e, e2, z⟩ => ⟨v', e, Wp_step0 f0_464 ⟨fun _ => z, fun y => absurd e2 y⟩⟩)
    Wp_step0 f0_450 (Wp_step0 f0_451 (Wp_step0 f0_452 (Wp_step0 f0_453 (Wp_step0 f0_454 (Wp_step0 f0_455 ⟨rfl, a1.1, a1.2, Wp_step0 f0_456 (Wp_step0 f0_457 (Wp_step0 f0_458 (Wp_step0 f0_459 (Wp_step0 f0_460 ⟨rfl, a2.1, a2.2, Wp_step0 f0_461 ⟨⟨kf_407, Nat.le_of_ble_eq_true rfl⟩, Nat.le_refl _, _, rfl, Sp_E h3⟩⟩))))⟩)))))
  have h1 : Sp X d 130 [mR 0, mI (X.1 (w32 (i + 1)).toNat), mI (X.1 (w32 (i + 2)).toNat)] s (fun r t => ∃ v : Int, r = some (mI v) ∧ Wp X (d + 1) 0 450 [some (mX 0), some (mR 0), some (mR 407), some (mI i)] [mI v] t Q) := h.imp (fun r t ⟨v, e, z⟩ => ⟨v, e, g v t z⟩)
  Wp_step0 f0_436 (Wp_step0 f0_437 (Wp_step0 f0_438 (Wp_step0 f0_439 (Wp_step0 f0_440 (Wp_step0 f0_441 ⟨rfl, a1.1, a1.2, Wp_step0 f0_442 (Wp_step0 f0_443 (Wp_step0 f0_444 (Wp_step0 f0_445 (Wp_step0 f0_446 ⟨rfl, a2.1, a2.2, Wp_step0 f0_447 ⟨⟨kf_0, Nat.le_of_ble_eq_true rfl⟩, Nat.le_refl _, _, rfl, Sp_E h1⟩⟩))))⟩)))))
theorem w0_9 {X : (Nat → Int) × Nat} {d : Nat} {s : mSt} {Q : mQ} {i : Int} (h : Sp X d 131 [mR 0] s (fun r t => ∃ v : Int, r = some (mI v) ∧ Sp X d 255 [mR 407] t (fun r u => ∃ v' : Int, r = some (mI v') ∧ v = v' ∧ Wp X (d + 1) 0 1435 [some (mX 0), some (mR 0), some (mR 407), some (mI i)] [] u Q))) : Wp X (d + 1) 0 469 [some (mX 0), some (mR 0), some (mR 407), some (mI i)] [] s Q :=
  have g : ∀ (v : Int) (t : mSt), Sp X d 255 [mR 407] t (fun r u => ∃ v' : Int, r = some (mI v') ∧ v = v' ∧ Wp X (d + 1) 0 1435 [some (mX 0), some (mR 0), some (mR 407), some (mI i)] [] u Q) → Wp X (d + 1) 0 473 [some (mX 0), some (mR 0), some (mR 407), some (mI i)] [mI v] t Q := fun v t h2 =>
    have h3 : Sp X d 255 [mR 407] t (fun r u => ∃ v' : Int, r = some (mI v') ∧ Wp X (d + 1) 0 477 [some (mX 0), some (mR 0), some (mR 407), some (mI i)] [mI v', mI v] u Q) := h2.imp (fun r u ⟨v', e, e2, z⟩ => ⟨v', e, Wp_step0 f0_477 ⟨fun _ => z, fun y => absurd e2 y⟩⟩)
    Wp_step0 f0_473 (Wp_step0 f0_474 ⟨⟨kf_407, Nat.le_of_ble_eq_true rfl⟩, Nat.le_refl _, _, rfl, Sp_E h3⟩)
  have h1 : Sp X d 131 [mR 0] s (fun r t => ∃ v : Int, r = some (mI v) ∧ Wp X (d + 1) 0 473 [some (mX 0), some (mR 0), some (mR 407), some (mI i)] [mI v] t Q) := h.imp (fun r t ⟨v, e, z⟩ => ⟨v, e, g v t z⟩)
  Wp_step0 f0_469 (Wp_step0 f0_470 ⟨⟨kf_0, Nat.le_of_ble_eq_true rfl⟩, Nat.le_refl _, _, rfl, Sp_E h1⟩)
theorem w0_10 {X : (Nat → Int) × Nat} {d : Nat} {s : mSt} {Q : mQ} {i : Int} (a1 : 0 ≤ w32 (i + 1) ∧ w32 (i + 1) < X.2) (h : Sp X d 132 [mR 0, mI (X.1 (w32 (i + 1)).toNat)] s (fun r t => ∃ v : Int, r = some (mI v) ∧ Sp X d 256 [mR 407, mI (X.1 (w32 (i + 1)).toNat)] t (fun r u => ∃ v' : Int, r = some (mI v') ∧ v = v' ∧ Wp X (d + 1) 0 1435 [some (mX 0), some (mR 0), some (mR 407), some (mI i)] [] u Q))) : Wp X (d + 1) 0 482 [some (mX 0), some (mR 0), some (mR 407), some (mI i)] [] s Q :=
  have g : ∀ (v : Int) (t : mSt), Sp X d 256 [mR 407, mI (X.1 (w32 (i + 1)).toNat)] t (fun r u => ∃ v' : Int, r = some (mI v') ∧ v = v' ∧ Wp X (d + 1) 0 1435 [some (mX 0), some (mR 0), some (mR 407), some (mI i)] [] u Q) → Wp X (d + 1) 0 491 [some (mX 0), some (mR 0), some (mR 407), some (mI i)] [mI v] t Q := fun v t h2 =>
    have h3 : Sp X d 256 [mR 407, mI (X.1 (w32 (i + 1)).toNat)] t (fun r u => ∃ v' : Int, r = some (mI v') ∧ Wp X (d + 1) 0 500 [some (mX 0), some (mR 0), some (mR 407), some (mI i)] [mI v', mI v] u Q) := h2.imp (fun r u ⟨v', e, e2, z⟩ => ⟨v', e, Wp_step0 f0_500 ⟨fun _ => z, fun y => absurd e2 y⟩⟩)
    Wp_step0 f0_491 (Wp_step0 f0_492 (Wp_step0 f0_493 (Wp_step0 f0_494 (Wp_step0 f0_495 (Wp_step0 f0_496 ⟨rfl, a1.1, a1.2, Wp_step0 f0_497 ⟨⟨kf_407, Nat.le_of_ble_eq_true rfl⟩, Nat.le_refl _, _, rfl, Sp_E h3⟩⟩)))))
  have h1 : Sp X d 132 [mR 0, mI (X.1 (w32 (i + 1)).toNat)] s (fun r t => ∃ v : Int, r = some (mI v) ∧ Wp X (d + 1) 0 491 [some (mX 0), some (mR 0), some (mR 407), some (mI i)] [mI v] t Q) := h.imp (fun r t ⟨v, e, z⟩ => ⟨v, e, g v t z⟩)
  Wp_step0 f0_482 (Wp_step0 f0_483 (Wp_step0 f0_484 (Wp_step0 f0_485 (Wp_step0 f0_486 (Wp_step0 f0_487 ⟨rfl, a1.1, a1.2, Wp_step0 f0_488 ⟨⟨kf_0, Nat.le_of_ble_eq_true rfl⟩, Nat.le_refl _, _, rfl, Sp_E h1⟩⟩)))))
theorem w0_11 {X : (Nat → Int) × Nat} {d : Nat} {s : mSt} {Q : mQ} {i : Int} (a1 : 0 ≤ w32 (i + 1) ∧ w32 (i + 1) < X.2) (h : Sp X d 133 [mR 0, mI (X.1 (w32 (i + 1)).toNat)] s (fun r t => ∃ v : Int, r = some (mI v) ∧ Sp X d 257 [mR 407, mI (X.1 (w32 (i + 1)).toNat)] t (fun r u => ∃ v' : Int, r = some (mI v') ∧ v = v' ∧ Wp X (d + 1) 0 1435 [some (mX 0), some (mR 0), some (mR 407), some (mI i)] [] u Q))) : Wp X (d + 1) 0 505 [some (mX 0), some (mR 0), some (mR 407), some (mI i)] [] s Q :=
  have g : ∀ (v : Int) (t : mSt), Sp X d 257 [mR 407, mI (X.1 (w32 (i + 1)).toNat)] t (fun r u => ∃ v' : Int, r = some (mI v') ∧ v = v' ∧ Wp X (d + 1) 0 1435 [some (mX 0), some (mR 0), some (mR 407), some (mI i)] [] u Q) → Wp X (d + 1) 0 514 [some (mX 0), some (mR 0), some (mR 407), some (mI i)] [mI v] t Q := fun v t h2 =>
    have h3 : Sp X d 257 [mR 407, mI (X.1 (w32 (i + 1)).toNat)] t (fun r u => ∃ v' : Int, r = some (mI v') ∧ Wp X (d + 1) 0 523 [some (mX 0), some (mR 0), some (mR 407), some (mI i)] [mI v', mI v] u Q) := h2.imp (fun r u ⟨v', e, e2, z⟩ => ⟨v', e, Wp_step0 f0_523 ⟨fun _ => z, fun y => absurd e2 y⟩⟩)
    Wp_step0 f0_514 (Wp_step0 f0_515 (Wp_step0 f0_516 (Wp_step0 f0_517 (Wp_step0 f0_518 (Wp_step0 f0_519 ⟨rfl, a1.1, a1.2, Wp_step0 f0_520 ⟨⟨kf_407, Nat.le_of_ble_eq_true rfl⟩, Nat.le_refl _, _, rfl, Sp_E h3⟩⟩)))))
  have h1 : Sp X d 133 [mR 0, mI (X.1 (w32 (i + 1)).toNat)] s (fun r t => ∃ v : Int, r = some (mI v) ∧ Wp X (d + 1) 0 514 [some (mX 0), some (mR 0), some (mR 407), some (mI i)] [mI v] t Q) := h.imp (fun r t ⟨v, e, z⟩ => ⟨v, e, g v t z⟩)
  Wp_step0 f0_505 (Wp_step0 f0_506 (Wp_step0 f0_507 (Wp_step0 f0_508 (Wp_step0 f0_509 (Wp_step0 f0_510 ⟨rfl, a1.1, a1.2, Wp_step0 f0_511 ⟨⟨kf_0, Nat.le_of_ble_eq_true rfl⟩, Nat.le_refl _, _, rfl, Sp_E h1⟩⟩)))))
theorem w0_12 {X : (Nat → Int) × Nat} {d : Nat} {s : mSt} {Q : mQ} {i : Int} (a1 : 0 ≤ w32 (i + 1) ∧ w32 (i + 1) < X.2) (a2 : 0 ≤ w32 (i + 2) ∧ w32 (i + 2) < X.2) (h : Sp X d 134 [mR 0, mI (X.1 (w32 (i + 1)).toNat), mI (X.1 (w32 (i + 2)).toNat)] s (fun r t => ∃ v : Int, r = some (mI v) ∧ Sp X d 259 [mR 407, mI (X.1 (w32 (i + 1)).toNat), mI (X.1 (w32 (i + 2)).toNat)] t (fun r u => ∃ v' : Int, r = some (mI v') ∧ v = v' ∧ Wp X (d + 1) 0 1435 [some (mX 0), some (mR 0), some (mR 407), some (mI i)] [] u Q))) : Wp X (d + 1) 0 528 [some (mX 0), some (mR 0), some (mR 407), some (mI i)] [] s Q :=
  have g : ∀ (v : Int) (t : mSt), Sp X d 259 [mR 407, mI (X.1 (w32 (i + 1)).toNat), mI (X.1 (w32 (i + 2)).toNat)] t (fun r u => ∃ v' : Int, r = some (mI v') ∧ v = v' ∧ Wp X (d + 1) 0 1435 [some (mX 0), some (mR 0), some (mR 407), some (mI i)] [] u Q) → Wp X (d + 1) 0 542 [some (mX 0), some (mR 0), some (mR 407), some (mI i)] [mI v] t Q := fun v t h2 =>
    have h3 : Sp X d 259 [mR 407, mI (X.1 (w32 (i + 1)).toNat), mI (X.1 (w32 (i + 2)).toNat)] t (fun r u => ∃ v' : Int, r = some (mI v') ∧ Wp X (d + 1) 0 556 [some (mX 0), some (mR 0), some (mR 407), some (mI i)] [mI v', mI v] u Q) := h2.imp (fun r u ⟨v', e, e2, z⟩ => ⟨v', e, Wp_step0 f0_556 ⟨fun _ => z, fun y => absurd e2 y⟩⟩)
    Wp_step0 f0_542 (Wp_step0 f0_543 (Wp_step0 f0_544 (Wp_step0 f0_545 (Wp_step0 f0_546 (Wp_step0 f0_547 ⟨rfl, a1.1, a1.2, Wp_step0 f0_548 (Wp_step0 f0_549 (Wp_step0 f0_550 (Wp_step0 f0_551 (Wp_step0 f0_552 ⟨rfl, a2.1, a2.2, Wp_step0 f0_553 ⟨⟨kf_407, Nat.le_of_ble_eq_true rfl⟩, Nat.le_refl _, _, rfl, Sp_E h3⟩⟩))))⟩)))))
  have h1 : Sp X d 134 [mR 0, mI (X.1 (w32 (i + 1)).toNat), mI (X.1 (w32 (i + 2)).toNat)] s (fun r t => ∃ v : Int, r = some (mI v) ∧ Wp X (d + 1) 0 542 [some (mX 0), some (mR 0), some (mR 407), some (mI i)] [mI v] t Q) := h.imp (fun r t ⟨v, e, z⟩ => ⟨v, e, g v t z⟩)
  Wp_step0 f0_528 (Wp_step0 f0_529 (Wp_step0 f0_530 (Wp_step0 f0_531 (Wp_step0 f0_532 (Wp_step0 f0_533 ⟨rfl, a1.1, a1.2, Wp_step0 f0_534 (Wp_step0 f0_535 (Wp_step0 f0_536 (Wp_step0 f0_537 (Wp_step0 f0_538 ⟨rfl, a2.1, a2.2, Wp_step0 f0_539 ⟨⟨kf_0, Nat.le_of_ble_eq_true rfl⟩, Nat.le_refl _, _, rfl, Sp_E h1⟩⟩))))⟩)))))
theorem w0_13 {X : (Nat → Int) × Nat} {d : Nat} {s : mSt} {Q : mQ} {i : Int} (a1 : 0 ≤ w32 (i + 1) ∧ w32 (i + 1) < X.2) (a2 : 0 ≤ w32 (i + 2) ∧ w32 (i + 2) < X.2) (h : Sp X d 135 [mR 0, mI (X.1 (w32 (i + 1)).toNat), mI (X.1 (w32 (i + 2)).toNat)] s (fun r t => ∃ v : Int, r = some (mI v) ∧ Sp X d 260 [mR 407, mI (X.1 (w32 (i + 1)).toNat), mI (X.1 (w32 (i + 2)).toNat)] t (fun r u => ∃ v' : Int, r = some (mI v') ∧ v = v' ∧ Wp X (d + 1) 0 1435 [some (mX 0), some (mR 0), some (mR 407), some (mI i)] [] u Q))) : Wp X (d + 1) 0 561 [some (mX 0), some (mR 0), some (mR 407), some (mI i)] [] s Q :=
  have g : ∀ (v : Int) (t : mSt), Sp X d 260 [mR 407, mI (X.1 (w32 (i + 1)).toNat), mI (X.1 (w32 (i + 2)).toNat)] t (fun r u => ∃ v' : Int, r = some (mI v') ∧ v = v' ∧ Wp X (d + 1) 0 1435 [some (mX 0), some (mR 0), some (mR 407), some (mI i)] [] u Q) → Wp X (d + 1) 0 575 [some (mX 0), some (mR 0), some (mR 407), some (mI i)] [mI v] t Q := fun v t h2 =>
    have h3 : Sp X d 260 [mR 407, mI (X.1 (w32 (i + 1)).toNat), mI (X.1 (w32 (i + 2)).toNat)] t (fun r u => ∃ v' : Int, r = some (mI v') ∧ Wp X (d + 1) 0 589 [some (mX 0), some (mR 0), some (mR 407), some (mI i)] [mI v', mI v] u Q) := h2.imp (fun r u ⟨v', e, e2, z⟩ => ⟨v', e, Wp_step0 f0_589 ⟨fun _ => z, fun y => absurd e2 y⟩⟩)
    Wp_step0 f0_575 (Wp_step0 f0_576 (Wp_step0 f0_577 (Wp_step0 f0_578 (Wp_step0 f0_579 (Wp_step0 f0_580 ⟨rfl, a1.1, a1.2, Wp_step0 f0_581 (Wp_step0 f0_582 (Wp_step0 f0_583 (Wp_step0 f0_584 (Wp_step0 f0_585 ⟨rfl, a2.1, a2.2, Wp_step0 f0_586 ⟨⟨kf_407, Nat.le_of_ble_eq_true rfl⟩, Nat.le_refl _, _, rfl, Sp_E h3⟩⟩))))⟩)))))
  have h1 : Sp X d 135 [mR 0, mI (X.1 (w32 (i + 1)).toNat), mI (X.1 (w32 (i + 2)).toNat)] s (fun r t => ∃ v : Int, r = some (mI v) ∧ Wp X (d + 1) 0 575 [some (mX 0), some (mR 0), some (mR 407), some (mI i)] [mI v] t Q) := h.imp (fun r t ⟨v, e, z⟩ => ⟨v, e, g v t z⟩)
  Wp_step0 f0_561 (Wp_step0 f0_562 (Wp_step0 f0_563 (Wp_step0 f0_564 (Wp_step0 f0_565 (Wp_step0 f0_566 ⟨rfl, a1.1, a1.2, Wp_step0 f0_567 (Wp_step0 f0_568 (Wp_step0 f0_569 (Wp_step0 f0_570 (Wp_step0 f0_571 ⟨rfl, a2.1, a2.2, Wp_step0 f0_572 ⟨⟨kf_0, Nat.le_of_ble_eq_true rfl⟩, Nat.le_refl _, _, rfl, Sp_E h1⟩⟩))))⟩)))))
theorem w0_14 {X : (Nat → Int) × Nat} {d : Nat} {s : mSt} {Q : mQ} {i : Int} (h : Sp X d 136 [mR 0] s (fun r t => ∃ v : Int, r = some (mI v) ∧ Sp X d 254 [mR 407] t (fun r u => ∃ v' : Int, r = some (mI v') ∧ v = v' ∧ Wp X (d + 1) 0 1435 [some (mX 0), some (mR 0), some (mR 407), some (mI i)] [] u Q))) : Wp X (d + 1) 0 594 [some (mX 0), some (mR 0), some (mR 407), some (mI i)] [] s Q :=
  have g : ∀ (v : Int) (t : mSt), Sp X d 254 [mR 407] t (fun r u => ∃ v' : Int, r = some (mI v') ∧ v = v' ∧ Wp X (d + 1) 0 1435 [some (mX 0), some (mR 0), some (mR 407), some (mI i)] [] u Q) → Wp X (d + 1) 0 598 [some (mX 0), some (mR 0), some (mR 407), some (mI i)] [mI v] t Q := fun v t h2 =>
    have h3 : Sp X d 254 [mR 407] t (fun r u => ∃ v' : Int, r = some (mI v') ∧ Wp X (d + 1) 0 602 [some (mX 0), some (mR 0), some (mR 407), some (mI i)] [mI v', mI v] u Q) := h2.imp (fun r u ⟨v', e, e2, z⟩ => ⟨v', e, Wp_step0 f0_602 ⟨fun _ => z, fun y => absurd e2 y⟩⟩)
    Wp_step0 f0_598 (Wp_step0 f0_599 ⟨⟨kf_407, Nat.le_of_ble_eq_true rfl⟩, Nat.le_refl _, _, rfl, Sp_E h3⟩)
  have h1 : Sp X d 136 [mR 0] s (fun r t => ∃ v : Int, r = some (mI v) ∧ Wp X (d + 1) 0 598 [some (mX 0), some (mR 0), some (mR 407), some (mI i)] [mI v] t Q) := h.imp (fun r t ⟨v, e, z⟩ => ⟨v, e, g v t z⟩)
  Wp_step0 f0_594 (Wp_step0 f0_595 ⟨⟨kf_0, Nat.le_of_ble_eq_true rfl⟩, Nat.le_refl _, _, rfl, Sp_E h1⟩)
theorem w0_15 {X : (Nat → Int) × Nat} {d : Nat} {s : mSt} {Q : mQ} {i : Int} (a1 : 0 ≤ w32 (i + 1) ∧ w32 (i + 1) < X.2) (a2 : 0 ≤ w32 (i + 2) ∧ w32 (i + 2) < X.2) (h : Sp X d 137 [mR 0, mI (X.1 (w32 (i + 1)).toNat), mI (X.1 (w32 (i + 2)).toNat)] s (fun r t => ∃ v : Int, r = some (mI v) ∧ Sp X d 261 [mR 407, mI (X.1 (w32 (i + 1)).toNat), mI (X.1 (w32 (i + 2)).toNat)] t (fun r u => ∃ v' : Int, r = some (mI v') ∧ v = v' ∧ Wp X (d + 1) 0 1435 [some (mX 0), some (mR 0), some (mR 407), some (mI i)] [] u Q))) : Wp X (d + 1) 0 607 [some (mX 0), some (mR 0), some (mR 407), some (mI i)] [] s Q :=
  have g : ∀ (v : Int) (t : mSt), Sp X d 261 [mR 407, mI (X.1 (w32 (i + 1)).toNat), mI (X.1 (w32 (i + 2)).toNat)] t (fun r u => ∃ v' : Int, r = some (mI v') ∧ v = v' ∧ Wp X (d + 1) 0 1435 [some (mX 0), some (mR 0), some (mR 407), some (mI i)] [] u Q) → Wp X (d + 1) 0 621 [some (mX 0), some (mR 0), some (mR 407), some (mI i)] [mI v] t Q := fun v t h2 =>
    have h3 : Sp X d 261 [mR 407, mI (X.1 (w32 (i + 1)).toNat), mI (X.1 (w32 (i + 2)).toNat)] t (fun r u => ∃ v' : Int, r = some (mI v') ∧ Wp X (d + 1) 0 635 [some (mX 0), some (mR 0), some (mR 407), some (mI i)] [mI v', mI v] u Q) := h2.imp (fun r u ⟨v', e, e2, z⟩ => ⟨v', e, Wp_step0 f0_635 ⟨fun _ => z, fun y => absurd e2 y⟩⟩)
    Wp_step0 f0_621 (Wp_step0 f0_622 (Wp_step0 f0_623 (Wp_step0 f0_624 (Wp_step0 f0_625 (Wp_step0 f0_626 ⟨rfl, a1.1, a1.2, Wp_step0 f0_627 (Wp_step0 f0_628 (Wp_step0 f0_629 (Wp_step0 f0_630 (Wp_step0 f0_631 ⟨rfl, a2.1, a2.2, Wp_step0 f0_632 ⟨⟨kf_407, Nat.le_of_ble_eq_true rfl⟩, Nat.le_refl _, _, rfl, Sp_E h3⟩⟩))))⟩)))))
  have h1 : Sp X d 137 [mR 0, mI (X.1 (w32 (i + 1)).toNat), mI (X.1 (w32 (i + 2)).toNat)] s (fun r t => ∃ v : Int, r = some (mI v) ∧ Wp X (d + 1) 0 621 [some (mX 0), some (mR 0), some (mR 407), some (mI i)] [mI v] t Q) := h.imp (fun r t ⟨v, e, z⟩ => ⟨v, e, g v t z⟩)
  Wp_step0 f0_607 (Wp_step0 f0_608 (Wp_step0 f0_609 (Wp_step0 f0_610 (Wp_step0 f0_611 (Wp_step0 f0_612 ⟨rfl, a1.1, a1.2, Wp_step0 f0_613 (Wp_step0 f0_614 (Wp_step0 f0_615 (Wp_step0 f0_616 (Wp_step0 f0_617 ⟨rfl, a2.1, a2.2, Wp_step0 f0_618 ⟨⟨kf_0, Nat.le_of_ble_eq_true rfl⟩, Nat.le_refl _, _, rfl, Sp_E h1⟩⟩))))⟩)))))
theorem w0_16 {X : (Nat → Int) × Nat} {d : Nat} {s : mSt} {Q : mQ} {i : Int} (a1 : 0 ≤ w32 (i + 1) ∧ w32 (i + 1) < X.2) (a2 : 0 ≤ w32 (i + 2) ∧ w32 (i + 2) < X.2) (h : Sp X d 138 [mR 0, mI (X.1 (w32 (i + 1)).toNat), mI (X.1 (w32 (i + 2)).toNat)] s (fun r t => ∃ v : Int, r = some (mI v) ∧ Sp X d 262 [mR 407, mI (X.1 (w32 (i + 1)).toNat), mI (X.1 (w32 (i + 2)).toNat)] t (fun r u => ∃ v' : Int, r = some (mI v') ∧ v = v' ∧ Wp X (d + 1) 0 1435 [some (mX 0), some (mR 0), some (mR 407), some (mI i)] [] u Q))) : Wp X (d + 1) 0 640 [some (mX 0), some (mR 0), some (mR 407), some (mI i)] [] s Q :=
  have g : ∀ (v : Int) (t : mSt), Sp X d 262 [mR 407, mI (X.1 (w32 (i + 1)).toNat), mI (X.1 (w32 (i + 2)).toNat)] t (fun r u => ∃ v' : Int, r = some (mI v') ∧ v = v' ∧ Wp X (d + 1) 0 1435 [some (mX 0), some (mR 0), some (mR 407), some (mI i)] [] u Q) → Wp X (d + 1) 0 654 [some (mX 0), some (mR 0), some (mR 407), some (mI i)] [mI v] t Q := fun v t h2 =>
    have h3 : Sp X d 262 [mR 407, mI (X.1 (w32 (i + 1)).toNat), mI (X.1 (w32 (i + 2)).toNat)] t (fun r u => ∃ v' : Int, r = some (mI v') ∧ Wp X (d + 1) 0 668 [some (mX 0), some (mR 0), some (mR 407), some (mI i)] [mI v', mI v] u Q) := h2.imp (fun r u ⟨v', e, e2, z⟩ => ⟨v', e, Wp_step0 f0_668 ⟨fun _ => z, fun y => absurd e2 y⟩⟩)
    Wp_step0 f0_654 (Wp_step0 f0_655 (Wp_step0 f0_656 (Wp_step0 f0_657 (Wp_step0 f0_658 (Wp_step0 f0_659 ⟨rfl, a1.1, a1.2, Wp_step0 f0_660 (Wp_step0 f0_661 (Wp_step0 f0_662 (Wp_step0 f0_663 (Wp_step0 f0_664 ⟨rfl, a2.1, a2.2, Wp_step0 f0_665 ⟨⟨kf_407, Nat.le_of_ble_eq_true rfl⟩, Nat.le_refl _, _, rfl, Sp_E h3⟩⟩))))⟩)))))
  have h1 : Sp X d 138 [mR 0, mI (X.1 (w32 (i + 1)).toNat), mI (X.1 (w32 (i + 2)).toNat)] s (fun r t => ∃ v : Int, r = some (mI v) ∧ Wp X (d + 1) 0 654 [some (mX 0), some (mR 0), some (mR 407), some (mI i)] [mI v] t Q) := h.imp (fun r t ⟨v, e, z⟩ => ⟨v, e, g v t z⟩)
  Wp_step0 f0_640 (Wp_step0 f0_641 (Wp_step0 f0_642 (Wp_step0 f0_643 (Wp_step0 f0_644 (Wp_step0 f0_645 ⟨rfl, a1.1, a1.2, Wp_step0 f0_646 (Wp_step0 f0_647 (Wp_step0 f0_648 (Wp_step0 f0_649 (Wp_step0 f0_650 ⟨rfl, a2.1, a2.2, Wp_step0 f0_651 ⟨⟨kf_0, Nat.le_of_ble_eq_true rfl⟩, Nat.le_refl _, _, rfl, Sp_E h1⟩⟩))))⟩)))))
theorem w0_17 {X : (Nat → Int) × Nat} {d : Nat} {s : mSt} {Q : mQ} {i : Int} (a1 : 0 ≤ w32 (i + 1) ∧ w32 (i + 1) < X.2) (h : Sp X d 139 [mR 0, mI (X.1 (w32 (i + 1)).toNat)] s (fun r t => ∃ v : Int, r = some (mI v) ∧ Sp X d 263 [mR 407, mI (X.1 (w32 (i + 1)).toNat)] t (fun r u => ∃ v' : Int, r = some (mI v') ∧ v = v' ∧ Wp X (d + 1) 0 1435 [some (mX 0), some (mR 0), some (mR 407), some (mI i)] [] u Q))) : Wp X (d + 1) 0 673 [some (mX 0), some (mR 0), some (mR 407), some (mI i)] [] s Q :=
  have g : ∀ (v : Int) (t : mSt), Sp X d 263 [mR 407, mI (X.1 (w32 (i + 1)).toNat)] t (fun r u => ∃ v' : Int, r = some (mI v') ∧ v = v' ∧ Wp X (d + 1) 0 1435 [some (mX 0), some (mR 0), some (mR 407), some (mI i)] [] u Q) → Wp X (d + 1) 0 682 [some (mX 0), some (mR 0), some (mR 407), some (mI i)] [mI v] t Q := fun v t h2 =>
    have h3 : Sp X d 263 [mR 407, mI (X.1 (w32 (i + 1)).toNat)] t (fun r u => ∃ v' : Int, r = some (mI v') ∧ Wp X (d + 1) 0 691 [some (mX 0), some (mR 0), some (mR 407), some (mI i)] [mI v', mI v] u Q) := h2.imp (fun r u ⟨v', e, e2, z⟩ => ⟨v', e, Wp_step0 f0_691 ⟨fun _ => z, fun y => absurd e2 y⟩⟩)
    Wp_step0 f0_682 (Wp_step0 f0_683 (Wp_step0 f0_684 (Wp_step0 f0_685 (Wp_step0 f0_686 (Wp_step0 f0_687 ⟨rfl, a1.1, a1.2, Wp_step0 f0_688 ⟨⟨kf_407, Nat.le_of_ble_eq_true rfl⟩, Nat.le_refl _, _, rfl, Sp_E h3⟩⟩)))))
  have h1 : Sp X d 139 [mR 0, mI (X.1 (w32 (i + 1)).toNat)] s (fun r t => ∃ v : Int, r = some (mI v) ∧ Wp X (d + 1) 0 682 [some (mX 0), some (mR 0), some (mR 407), some (mI i)] [mI v] t Q) := h.imp (fun r t ⟨v, e, z⟩ => ⟨v, e, g v t z⟩)
  Wp_step0 f0_673 (Wp_step0 f0_674 (Wp_step0 f0_675 (Wp_step0 f0_676 (Wp_step0 f0_677 (Wp_step0 f0_678 ⟨rfl, a1.1, a1.2, Wp_step0 f0_679 ⟨⟨kf_0, Nat.le_of_ble_eq_true rfl⟩, Nat.le_refl _, _, rfl, Sp_E h1⟩⟩)))))
theorem w0_18 {X : (Nat → Int) × Nat} {d : Nat} {s : mSt} {Q : mQ} {i : Int} (a1 : 0 ≤ w32 (i + 1) ∧ w32 (i + 1) < X.2) (a2 : 0 ≤ w32 (i + 2) ∧ w32 (i + 2) < X.2) (h : Sp X d 140 [mR 0, mI (X.1 (w32 (i + 1)).toNat), mI (X.1 (w32 (i + 2)).toNat)] s (fun r t => ∃ v : Int, r = some (mI v) ∧ Sp X d 264 [mR 407, mI (X.1 (w32 (i + 1)).toNat), mI (X.1 (w32 (i + 2)).toNat)] t (fun r u => ∃ v' : Int, r = some (mI v') ∧ v = v' ∧ Wp X (d + 1) 0 1435 [some (mX 0), some (mR 0), some (mR 407), some (mI i)] [] u Q))) : Wp X (d + 1) 0 696 [some (mX 0), some (mR 0), some (mR 407), some (mI i)] [] s Q :=
  have g : ∀ (v : Int) (t : mSt), Sp X d 264 [mR 407, mI (X.1 (w32 (i + 1)).toNat), mI (X.1 (w32 (i + 2)).toNat)] t (fun r u => ∃ v' : Int, r = some (mI v') ∧ v = v' ∧ Wp X (d + 1) 0 1435 [some (mX 0), some (mR 0), some (mR 407), some (mI i)] [] u Q) → Wp X (d + 1) 0 710 [some (mX 0), some (mR 0), some (mR 407), some (mI i)] [mI v] t Q := fun v t h2 =>
    have h3 : Sp X d 264 [mR 407, mI (X.1 (w32 (i + 1)).toNat), mI (X.1 (w32 (i + 2)).toNat)] t (fun r u => ∃ v' : Int, r = some (mI v') ∧ Wp X (d + 1) 0 724 [some (mX 0), some (mR 0), some (mR 407), some (mI i)] [mI v', mI v] u Q) := h2.imp (fun r u ⟨v', e, e2, z⟩ => ⟨v', e, Wp_step0 f0_724 ⟨fun _ => z, fun y => absurd e2 y⟩⟩)
    Wp_step0 f0_710 (Wp_step0 f0_711 (Wp_step0 f0_712 (Wp_step0 f0_713 (Wp_step0 f0_714 (Wp_step0 f0_715 ⟨rfl, a1.1, a1.2, Wp_step0 f0_716 (Wp_step0 f0_717 (Wp_step0 f0_718 (Wp_step0 f0_719 (Wp_step0 f0_720 ⟨rfl, a2.1, a2.2, Wp_step0 f0_721 ⟨⟨kf_407, Nat.le_of_ble_eq_true rfl⟩, Nat.le_refl _, _, rfl, Sp_E h3⟩⟩))))⟩)))))
  have h1 : Sp X d 140 [mR 0, mI (X.1 (w32 (i + 1)).toNat), mI (X.1 (w32 (i + 2)).toNat)] s (fun r t => ∃ v : Int, r = some (mI v) ∧ Wp X (d + 1) 0 710 [some (mX 0), some (mR 0), some (mR 407), some (mI i)] [mI v] t Q) := h.imp (fun r t ⟨v, e, z⟩ => ⟨v, e, g v t z⟩)
  Wp_step0 f0_696 (Wp_step0 f0_697 (Wp_step0 f0_698 (Wp_step0 f0_699 (Wp_step0 f0_700 (Wp_step0 f0_701 ⟨rfl, a1.1, a1.2, Wp_step0 f0_702 (Wp_step0 f0_703 (Wp_step0 f0_704 (Wp_step0 f0_705 (Wp_step0 f0_706 ⟨rfl, a2.1, a2.2, Wp_step0 f0_707 ⟨⟨kf_0, Nat.le_of_ble_eq_true rfl⟩, Nat.le_refl _, _, rfl, Sp_E h1⟩⟩))))⟩)))))
theorem w0_19 {X : (Nat → Int) × Nat} {d : Nat} {s : mSt} {Q : mQ} {i : Int} (a1 : 0 ≤ w32 (i + 1) ∧ w32 (i + 1) < X.2) (a2 : 0 ≤ w32 (i + 2) ∧ w32 (i + 2) < X.2) (h : Sp X d 141 [mR 0, mI (X.1 (w32 (i + 1)).toNat), mI (X.1 (w32 (i + 2)).toNat)] s (fun r t => ∃ v : Int, r = some (mI v) ∧ Sp X d 266 [mR 407, mI (X.1 (w32 (i + 1)).toNat), mI (X.1 (w32 (i + 2)).toNat)] t (fun r u => ∃ v' : Int, r = some (mI v') ∧ v = v' ∧ Wp X (d + 1) 0 1435 [some (mX 0), some (mR 0), some (mR 407), some (mI i)] [] u Q))) : Wp X (d + 1) 0 729 [some (mX 0), some (mR 0), some (mR 407), some (mI i)] [] s Q :=
  have g : ∀ (v : Int) (t : mSt), Sp X d 266 [mR 407, mI (X.1 (w32 (i + 1)).toNat), mI (X.1 (w32 (i + 2)).toNat)] t (fun r u => ∃ v' : Int, r = some (mI v') ∧ v = v' ∧ Wp X (d + 1) 0 1435 [some (mX 0), some (mR 0), some (mR 407), some (mI i)] [] u Q) → Wp X (d + 1) 0 743 [some (mX 0), some (mR 0), some (mR 407), some (mI i)] [mI v] t Q := fun v t h2 =>
    have h3 : Sp X d 266 [mR 407, mI (X.1 (w32 (i + 1)).toNat), mI (X.1 (w32 (i + 2)).toNat)] t (fun r u => ∃ v' : Int, r = some (mI v') ∧ Wp X (d + 1) 0 757 [some (mX 0), some (mR 0), some (mR 407), some (mI i)] [mI v', mI v] u Q) := h2.imp (fun r u ⟨v', e, e2, z⟩ => ⟨v', e, Wp_step0 f0_757 ⟨fun _ => z, fun y => absurd e2 y⟩⟩)
    Wp_step0 f0_743 (Wp_step0 f0_744 (Wp_step0 f0_745 (Wp_step0 f0_746 (Wp_step0 f0_747 (Wp_step0 f0_748 ⟨rfl, a1.1, a1.2, Wp_step0 f0_749 (Wp_step0 f0_750 (Wp_step0 f0_751 (Wp_step0 f0_752 (Wp_step0 f0_753 ⟨rfl, a2.1, a2.2, Wp_step0 f0_754 ⟨⟨kf_407, Nat.le_of_ble_eq_true rfl⟩, Nat.le_refl _, _, rfl, Sp_E h3⟩⟩))))⟩)))))
  have h1 : Sp X d 141 [mR 0, mI (X.1 (w32 (i + 1)).toNat), mI (X.1 (w32 (i + 2)).toNat)] s (fun r t => ∃ v : Int, r = some (mI v) ∧ Wp X (d + 1) 0 743 [some (mX 0), some (mR 0), some (mR 407), some (mI i)] [mI v] t Q) := h.imp (fun r t ⟨v, e, z⟩ => ⟨v, e, g v t z⟩)
  Wp_step0 f0_729 (Wp_step0 f0_730 (Wp_step0 f0_731 (Wp_step0 f0_732 (Wp_step0 f0_733 (Wp_step0 f0_734 ⟨rfl, a1.1, a1.2, Wp_step0 f0_735 (Wp_step0 f0_736 (Wp_step0 f0_737 (Wp_step0 f0_738 (Wp_step0 f0_739 ⟨rfl, a2.1, a2.2, Wp_step0 f0_740 ⟨⟨kf_0, Nat.le_of_ble_eq_true rfl⟩, Nat.le_refl _, _, rfl, Sp_E h1⟩⟩))))⟩)))))
theorem w0_20 {X : (Nat → Int) × Nat} {d : Nat} {s : mSt} {Q : mQ} {i : Int} (a1 : 0 ≤ w32 (i + 1) ∧ w32 (i + 1) < X.2) (a2 : 0 ≤ w32 (i + 2) ∧ w32 (i + 2) < X.2) (h : Sp X d 142 [mR 0, mI (X.1 (w32 (i + 1)).toNat), mI (X.1 (w32 (i + 2)).toNat)] s (fun r t => ∃ v : Int, r = some (mI v) ∧ Sp X d 269 [mR 407, mI (X.1 (w32 (i + 1)).toNat), mI (X.1 (w32 (i + 2)).toNat)] t (fun r u => ∃ v' : Int, r = some (mI v') ∧ v = v' ∧ Wp X (d + 1) 0 1435 [some (mX 0), some (mR 0), some (mR 407), some (mI i)] [] u Q))) : Wp X (d + 1) 0 762 [some (mX 0), some (mR 0), some (mR 407), some (mI i)] [] s Q :=
  have g : ∀ (v : Int) (t : mSt), Sp X d 269 [mR 407, mI (X.1 (w32 (i + 1)).toNat), mI (X.1 (w32 (i + 2)).toNat)] t (fun r u => ∃ v' : Int, r = some (mI v') ∧ v = v' ∧ Wp X (d + 1) 0 1435 [some (mX 0), some (mR 0), some (mR 407), some (mI i)] [] u Q) → Wp X (d + 1) 0 776 [some (mX 0), some (mR 0), some (mR 407), some (mI i)] [mI v] t Q := fun v t h2 =>
    have h3 : Sp X d 269 [mR 407, mI (X.1 (w32 (i + 1)).toNat), mI (X.1 (w32 (i + 2)).toNat)] t (fun r u => ∃ v' : Int, r = some (mI v') ∧ Wp X (d + 1) 0 790 [some (mX 0), some (mR 0), some (mR 407), some (mI i)] [mI v', mI v] u Q) := h2.imp (fun r u ⟨v', e, e2, z⟩ => ⟨v', e, Wp_step0 f0_790 ⟨fun _ => z, fun y => absurd e2 y⟩⟩)
    Wp_step0 f0_776 (Wp_step0 f0_777 (Wp_step0 f0_778 (Wp_step0 f0_779 (Wp_step0 f0_780 (Wp_step0 f0_781 ⟨rfl, a1.1, a1.2, Wp_step0 f0_782 (Wp_step0 f0_783 (Wp_step0 f0_784 (Wp_step0 f0_785 (Wp_step0 f0_786 ⟨rfl, a2.1, a2.2, Wp_step0 f0_787 ⟨⟨kf_407, Nat.le_of_ble_eq_true rfl⟩, Nat.le_refl _, _, rfl, Sp_E h3⟩⟩))))⟩)))))
  have h1 : Sp X d 142 [mR 0, mI (X.1 (w32 (i + 1)).toNat), mI (X.1 (w32 (i + 2)).toNat)] s (fun r t => ∃ v : Int, r = some (mI v) ∧ Wp X (d + 1) 0 776 [some (mX 0), some (mR 0), some (mR 407), some (mI i)] [mI v] t Q) := h.imp (fun r t ⟨v, e, z⟩ => ⟨v, e, g v t z⟩)
  Wp_step0 f0_762 (Wp_step0 f0_763 (Wp_step0 f0_764 (Wp_step0 f0_765 (Wp_step0 f0_766 (Wp_step0 f0_767 ⟨rfl, a1.1, a1.2, Wp_step0 f0_768 (Wp_step0 f0_769 (Wp_step0 f0_770 (Wp_step0 f0_771 (Wp_step0 f0_772 ⟨rfl, a2.1, a2.2, Wp_step0 f0_773 ⟨⟨kf_0, Nat.le_of_ble_eq_true rfl⟩, Nat.le_refl _, _, rfl, Sp_E h1⟩⟩))))⟩)))))
theorem w0_21 {X : (Nat → Int) × Nat} {d : Nat} {s : mSt} {Q : mQ} {i : Int} (a1 : 0 ≤ w32 (i + 1) ∧ w32 (i + 1) < X.2) (a2 : 0 ≤ w32 (i + 2) ∧ w32 (i + 2) < X.2) (a3 : 0 ≤ w32 (i + 3) ∧ w32 (i + 3) < X.2) (h : Sp X d 143 [mR 0, mI (X.1 (w32 (i + 1)).toNat), mI (X.1 (w32 (i + 2)).toNat), mI (X.1 (w32 (i + 3)).toNat)] s (fun r t => ∃ v : Int, r = some (mI v) ∧ Sp X d 270 [mR 407, mI (X.1 (w32 (i + 1)).toNat), mI (X.1 (w32 (i + 2)).toNat), mI (X.1 (w32 (i + 3)).toNat)] t (fun r u => ∃ v' : Int, r = some (mI v') ∧ v = v' ∧ Wp X (d + 1) 0 1435 [some (mX 0), some (mR 0), some (mR 407), some (mI i)] [] u Q))) : Wp X (d + 1) 0 795 [some (mX 0), some (mR 0), some (mR 407), some (mI i)] [] s Q :=
  have g : ∀ (v : Int) (t : mSt), Sp X d 270 [mR 407, mI (X.1 (w32 (i + 1)).toNat), mI (X.1 (w32 (i + 2)).toNat), mI (X.1 (w32 (i + 3)).toNat)] t (fun r u => ∃ v' : Int, r = some (mI v') ∧ v = v' ∧ Wp X (d + 1) 0 1435 [some (mX 0), some (mR 0), some (mR 407), some (mI i)] [] u Q) → Wp X (d + 1) 0 814 [some (mX 0), some (mR 0), some (mR 407), some (mI i)] [mI v] t Q := fun v t h2 =>
    have h3 : Sp X d 270 [mR 407, mI (X.1 (w32 (i + 1)).toNat), mI (X.1 (w32 (i + 2)).toNat), mI (X.1 (w32 (i + 3)).toNat)] t (fun r u => ∃ v' : Int, r = some (mI v') ∧ Wp X (d + 1) 0 833 [some (mX 0), some (mR 0), some (mR 407), some (mI i)] [mI v', mI v] u Q) := h2.imp (fun r u ⟨v', e, e2, z⟩ => ⟨v', e, Wp_step0 f0_833 ⟨fun _ => z, fun y => absurd e2 y⟩⟩)
    Wp_step0 f0_814 (Wp_step0 f0_815 (Wp_step0 f0_816 (Wp_step0 f0_817 (Wp_step0 f0_818 (Wp_step0 f0_819 ⟨rfl, a1.1, a1.2, Wp_step0 f0_820 (Wp_step0 f0_821 (Wp_step0 f0_822 (Wp_step0 f0_823 (Wp_step0 f0_824 ⟨rfl, a2.1, a2.2, Wp_step0 f0_825 (Wp_step0 f0_826 (Wp_step0 f0_827 (Wp_step0 f0_828 (Wp_step0 f0_829 ⟨rfl, a3.1, a3.2, Wp_step0 f0_830 ⟨⟨kf_407, Nat.le_of_ble_eq_true rfl⟩, Nat.le_refl _, _, rfl, Sp_E h3⟩⟩))))⟩))))⟩)))))
  have h1 : Sp X d 143 [mR 0, mI (X.1 (w32 (i + 1)).toNat), mI (X.1 (w32 (i + 2)).toNat), mI (X.1 (w32 (i + 3)).toNat)] s (fun r t => ∃ v : Int, r = some (mI v) ∧ Wp X (d + 1) 0 814 [some (mX 0), some (mR 0), some (mR 407), some (mI i)] [mI v] t Q) := h.imp (fun r t ⟨v, e, z⟩ => ⟨v, e, g v t z⟩)
  Wp_step0 f0_795 (Wp_step0 f0_796 (Wp_step0 f0_797 (Wp_step0 f0_798 (Wp_step0 f0_799 (Wp_step0 f0_800 ⟨rfl, a1.1, a1.2, Wp_step0 f0_801 (Wp_step0 f0_802 (Wp_step0 f0_803 (Wp_step0 f0_804 (Wp_step0 f0_805 ⟨rfl, a2.1, a2.2, Wp_step0 f0_806 (Wp_step0 f0_807 (Wp_step0 f0_808 (Wp_step0 f0_809 (Wp_step0 f0_810 ⟨rfl, a3.1, a3.2, Wp_step0 f0_811 ⟨⟨kf_0, Nat.le_of_ble_eq_true rfl⟩, Nat.le_refl _, _, rfl, Sp_E h1⟩⟩))))⟩))))⟩)))))
theorem w0_22 {X : (Nat → Int) × Nat} {d : Nat} {s : mSt} {Q : mQ} {i : Int} (a1 : 0 ≤ w32 (i + 1) ∧ w32 (i + 1) < X.2) (a2 : 0 ≤ w32 (i + 2) ∧ w32 (i + 2) < X.2) (h : Sp X d 144 [mR 0, mI (X.1 (w32 (i + 1)).toNat), mI (X.1 (w32 (i + 2)).toNat)] s (fun r t => ∃ v : Int, r = some (mI v) ∧ Sp X d 272 [mR 407, mI (X.1 (w32 (i + 1)).toNat), mI (X.1 (w32 (i + 2)).toNat)] t (fun r u => ∃ v' : Int, r = some (mI v') ∧ v = v' ∧ Wp X (d + 1) 0 1435 [some (mX 0), some (mR 0), some (mR 407), some (mI i)] [] u Q))) : Wp X (d + 1) 0 838 [some (mX 0), some (mR 0), some (mR 407), some (mI i)] [] s Q :=
  have g : ∀ (v : Int) (t : mSt), Sp X d 272 [mR 407, mI (X.1 (w32 (i + 1)).toNat), mI (X.1 (w32 (i + 2)).toNat)] t (fun r u => ∃ v' : Int, r = some (mI v') ∧ v = v' ∧ Wp X (d + 1) 0 1435 [some (mX 0), some (mR 0), some (mR 407), some (mI i)] [] u Q) → Wp X (d + 1) 0 852 [some (mX 0), some (mR 0), some (mR 407), some (mI i)] [mI v] t Q := fun v t h2 =>
    have h3 : Sp X d 272 [mR 407, mI (X.1 (w32 (i + 1)).toNat), mI (X.1 (w32 (i + 2)).toNat)] t (fun r u => ∃ v' : Int, r = some (mI v') ∧ Wp X (d + 1) 0 866 [some (mX 0), some (mR 0), some (mR 407), some (mI i)] [mI v', mI v] u Q) := h2.imp (fun r u ⟨v', e, e2, z⟩ => ⟨v', e, Wp_step0 f0_866 ⟨fun _ => z, fun y => absurd e2 y⟩⟩)
    Wp_step0 f0_852 (Wp_step0 f0_853 (Wp_step0 f0_854 (Wp_step0 f0_855 (Wp_step0 f0_856 (Wp_step0 f0_857 ⟨rfl, a1.1, a1.2, Wp_step0 f0_858 (Wp_step0 f0_859 (Wp_step0 f0_860 (Wp_step0 f0_861 (Wp_step0 f0_862 ⟨rfl, a2.1, a2.2, Wp_step0 f0_863 ⟨⟨kf_407, Nat.le_of_ble_eq_true rfl⟩, Nat.le_refl _, _, rfl, Sp_E h3⟩⟩))))⟩)))))
  have h1 : Sp X d 144 [mR 0, mI (X.1 (w32 (i + 1)).toNat), mI (X.1 (w32 (i + 2)).toNat)] s (fun r t => ∃ v : Int, r = some (mI v) ∧ Wp X (d + 1) 0 852 [some (mX 0), some (mR 0), some (mR 407), some (mI i)] [mI v] t Q) := h.imp (fun r t ⟨v, e, z⟩ => ⟨v, e, g v t z⟩)
  Wp_step0 f0_838 (Wp_step0 f0_839 (Wp_step0 f0_840 (Wp_step0 f0_841 (Wp_step0 f0_842 (Wp_step0 f0_843 ⟨rfl, a1.1, a1.2, Wp_step0 f0_844 (Wp_step0 f0_845 (Wp_step0 f0_846 (Wp_step0 f0_847 (Wp_step0 f0_848 ⟨rfl, a2.1, a2.2, Wp_step0 f0_849 ⟨⟨kf_0, Nat.le_of_ble_eq_true rfl⟩, Nat.le_refl _, _, rfl, Sp_E h1⟩⟩))))⟩)))))
theorem w0_23 {X : (Nat → Int) × Nat} {d : Nat} {s : mSt} {Q : mQ} {i : Int} (a1 : 0 ≤ w32 (i + 1) ∧ w32 (i + 1) < X.2) (a2 : 0 ≤ w32 (i + 2) ∧ w32 (i + 2) < X.2) (a3 : 0 ≤ w32 (i + 3) ∧ w32 (i + 3) < X.2) (h : Sp X d 145 [mR 0, mI (X.1 (w32 (i + 1)).toNat), mI (X.1 (w32 (i + 2)).toNat), mI (X.1 (w32 (i + 3)).toNat)] s (fun r t => ∃ v : Int, r = some (mI v) ∧ Sp X d 274 [mR 407, mI (X.1 (w32 (i + 1)).toNat), mI (X.1 (w32 (i + 2)).toNat), mI (X.1 (w32 (i + 3)).toNat)] t (fun r u => ∃ v' : Int, r = some (mI v') ∧ v = v' ∧ Wp X (d + 1) 0 1435 [some (mX 0), some (mR 0), some (mR 407), some (mI i)] [] u Q))) : Wp X (d + 1) 0 871 [some (mX 0), some (mR 0), some (mR 407), some (mI i)] [] s Q :=
  have g : ∀ (v : Int) (t : mSt), Sp X d 274 [mR 407, mI (X.1 (w32 (i + 1)).toNat), mI (X.1 (w32 (i + 2)).toNat), mI (X.1 (w32 (i + 3)).toNat)] t (fun r u => ∃ v' : Int, r = some (mI v') ∧ v = v' ∧ Wp X (d + 1) 0 1435 [some (mX 0), some (mR 0), some (mR 407), some (mI i)] [] u Q) → Wp X (d + 1) 0 890 [some (mX 0), some (mR 0), some (mR 407), some (mI i)] [mI v] t Q := fun v t h2 =>
    have h3 : Sp X d 274 [mR 407, mI (X.1 (w32 (i + 1)).toNat), mI (X.1 (w32 (i + 2)).toNat), mI (X.1 (w32 (i + 3)).toNat)] t (fun r u => ∃ v' : Int, r = some (mI v') ∧ Wp X (d + 1) 0 909 [some (mX 0), some (mR 0), some (mR 407), some (mI i)] [mI v', mI v] u Q) := h2.imp (fun r u ⟨v', e, e2, z⟩ => ⟨v', e, Wp_step0 f0_909 ⟨fun _ => z, fun y => absurd e2 y⟩⟩)
    Wp_step0 f0_890 (Wp_step0 f0_891 (Wp_step0 f0_892 (Wp_step0 f0_893 (Wp_step0 f0_894 (Wp_step0 f0_895 ⟨rfl, a1.1, a1.2, Wp_step0 f0_896 (Wp_step0 f0_897 (Wp_step0 f0_898 (Wp_step0 f0_899 (Wp_step0 f0_900 ⟨rfl, a2.1, a2.2, Wp_step0 f0_901 (Wp_step0 f0_902 (Wp_step0 f0_903 (Wp_step0 f0_904 (Wp_step0 f0_905 ⟨rfl, a3.1, a3.2, Wp_step0 f0_906 ⟨⟨kf_407, Nat.le_of_ble_eq_true rfl⟩, Nat.le_refl _, _, rfl, Sp_E h3⟩⟩))))⟩))))⟩)))))
  have h1 : Sp X d 145 [mR 0, mI (X.1 (w32 (i + 1)).toNat), mI (X.1 (w32 (i + 2)).toNat), mI (X.1 (w32 (i + 3)).toNat)] s (fun r t => ∃ v : Int, r = some (mI v) ∧ Wp X (d + 1) 0 890 [some (mX 0), some (mR 0), some (mR 407), some (mI i)] [mI v] t Q) := h.imp (fun r t ⟨v, e, z⟩ => ⟨v, e, g v t z⟩)
  Wp_step0 f0_871 (Wp_step0 f0_872 (Wp_step0 f0_873 (Wp_step0 f0_874 (Wp_step0 f0_875 (Wp_step0 f0_876 ⟨rfl, a1.1, a1.2, Wp_step0 f0_877 (Wp_step0 f0_878 (Wp_step0 f0_879 (Wp_step0 f0_880 (Wp_step0 f0_881 ⟨rfl, a2.1, a2.2, Wp_step0 f0_882 (Wp_step0 f0_883 (Wp_step0 f0_884 (Wp_step0 f0_885 (Wp_step0 f0_886 ⟨rfl, a3.1, a3.2, Wp_step0 f0_887 ⟨⟨kf_0, Nat.le_of_ble_eq_true rfl⟩, Nat.le_refl _, _, rfl, Sp_E h1⟩⟩))))⟩))))⟩)))))
theorem w0_24 {X : (Nat → Int) × Nat} {d : Nat} {s : mSt} {Q : mQ} {i : Int} (a1 : 0 ≤ w32 (i + 1) ∧ w32 (i + 1) < X.2) (a2 : 0 ≤ w32 (i + 2) ∧ w32 (i + 2) < X.2) (h : Sp X d 146 [mR 0, mI (X.1 (w32 (i + 1)).toNat), mI (X.1 (w32 (i + 2)).toNat)] s (fun r t => ∃ v : Int, r = some (mI v) ∧ Sp X d 276 [mR 407, mI (X.1 (w32 (i + 1)).toNat), mI (X.1 (w32 (i + 2)).toNat)] t (fun r u => ∃ v' : Int, r = some (mI v') ∧ v = v' ∧ Wp X (d + 1) 0 1435 [some (mX 0), some (mR 0), some (mR 407), some (mI i)] [] u Q))) : Wp X (d + 1) 0 914 [some (mX 0), some (mR 0), some (mR 407), some (mI i)] [] s Q :=
  have g : ∀ (v : Int) (t : mSt), Sp X d 276 [mR 407, mI (X.1 (w32 (i + 1)).toNat), mI (X.1 (w32 (i + 2)).toNat)] t (fun r u => ∃ v' : Int, r = some (mI v') ∧ v = v' ∧ Wp X (d + 1) 0 1435 [some (mX 0), some (mR 0), some (mR 407), some (mI i)] [] u Q) → Wp X (d + 1) 0 928 [some (mX 0), some (mR 0), some (mR 407), some (mI i)] [mI v] t Q := fun v t h2 =>
    have h3 : Sp X d 276 [mR 407, mI (X.1 (w32 (i + 1)).toNat), mI (X.1 (w32 (i + 2)).toNat)] t (fun r u => ∃ v' : Int, r = some (mI v') ∧ Wp X (d + 1) 0 942 [some (mX 0), some (mR 0), some (mR 407), some (mI i)] [mI v', mI v] u Q) := h2.imp (fun r u ⟨v', e, e2, z⟩ => ⟨v', e, Wp_step0 f0_942 ⟨fun _ => z, fun y => absurd e2 y⟩⟩)
    Wp_step0 f0_928 (Wp_step0 f0_929 (Wp_step0 f0_930 (Wp_step0 f0_931 (Wp_step0 f0_932 (Wp_step0 f0_933 ⟨rfl, a1.1, a1.2, Wp_step0 f0_934 (Wp_step0 f0_935 (Wp_step0 f0_936 (Wp_step0 f0_937 (Wp_step0 f0_938 ⟨rfl, a2.1, a2.2, Wp_step0 f0_939 ⟨⟨kf_407, Nat.le_of_ble_eq_true rfl⟩, Nat.le_refl _, _, rfl, Sp_E h3⟩⟩))))⟩)))))
  have h1 : Sp X d 146 [mR 0, mI (X.1 (w32 (i + 1)).toNat), mI (X.1 (w32 (i + 2)).toNat)] s (fun r t => ∃ v : Int, r = some (mI v) ∧ Wp X (d + 1) 0 928 [some (mX 0), some (mR 0), some (mR 407), some (mI i)] [mI v] t Q) := h.imp (fun r t ⟨v, e, z⟩ => ⟨v, e, g v t z⟩)
  Wp_step0 f0_914 (Wp_step0 f0_915 (Wp_step0 f0_916 (Wp_step0 f0_917 (Wp_step0 f0_918 (Wp_step0 f0_919 ⟨rfl, a1.1, a1.2, Wp_step0 f0_920 (Wp_step0 f0_921 (Wp_step0 f0_922 (Wp_step0 f0_923 (Wp_step0 f0_924 ⟨rfl, a2.1, a2.2, Wp_step0 f0_925 ⟨⟨kf_0, Nat.le_of_ble_eq_true rfl⟩, Nat.le_refl _, _, rfl, Sp_E h1⟩⟩))))⟩)))))
theorem w0_25 {X : (Nat → Int) × Nat} {d : Nat} {s : mSt} {Q : mQ} {i : Int} (a1 : 0 ≤ w32 (i + 1) ∧ w32 (i + 1) < X.2) (h : Sp X d 147 [mR 0, mI (X.1 (w32 (i + 1)).toNat)] s (fun r t => ∃ v : Int, r = some (mI v) ∧ Sp X d 281 [mR 407, mI (X.1 (w32 (i + 1)).toNat)] t (fun r u => ∃ v' : Int, r = some (mI v') ∧ v = v' ∧ Wp X (d + 1) 0 1435 [some (mX 0), some (mR 0), some (mR 407), some (mI i)] [] u Q))) : Wp X (d + 1) 0 947 [some (mX 0), some (mR 0), some (mR 407), some (mI i)] [] s Q :=
  have g : ∀ (v : Int) (t : mSt), Sp X d 281 [mR 407, mI (X.1 (w32 (i + 1)).toNat)] t (fun r u => ∃ v' : Int, r = some (mI v') ∧ v = v' ∧ Wp X (d + 1) 0 1435 [some (mX 0), some (mR 0), some (mR 407), some (mI i)] [] u Q) → Wp X (d + 1) 0 956 [some (mX 0), some (mR 0), some (mR 407), some (mI i)] [mI v] t Q := fun v t h2 =>
    have h3 : Sp X d 281 [mR 407, mI (X.1 (w32 (i + 1)).toNat)] t (fun r u => ∃ v' : Int, r = some (mI v') ∧ Wp X (d + 1) 0 965 [some (mX 0), some (mR 0), some (mR 407), some (mI i)] [mI v', mI v] u Q) := h2.imp (fun r u ⟨v', e, e2, z⟩ => ⟨v', e, Wp_step0 f0_965 ⟨fun _ => z, fun y => absurd e2 y⟩⟩)
    Wp_step0 f0_956 (Wp_step0 f0_957 (Wp_step0 f0_958 (Wp_step0 f0_959 (Wp_step0 f0_960 (Wp_step0 f0_961 ⟨rfl, a1.1, a1.2, Wp_step0 f0_962 ⟨⟨kf_407, Nat.le_of_ble_eq_true rfl⟩, Nat.le_refl _, _, rfl, Sp_E h3⟩⟩)))))
  have h1 : Sp X d 147 [mR 0, mI (X.1 (w32 (i + 1)).toNat)] s (fun r t => ∃ v : Int, r = some (mI v) ∧ Wp X (d + 1) 0 956 [some (mX 0), some (mR 0), some (mR 407), some (mI i)] [mI v] t Q) := h.imp (fun r t ⟨v, e, z⟩ => ⟨v, e, g v t z⟩)
  Wp_step0 f0_947 (Wp_step0 f0_948 (Wp_step0 f0_949 (Wp_step0 f0_950 (Wp_step0 f0_951 (Wp_step0 f0_952 ⟨rfl, a1.1, a1.2, Wp_step0 f0_953 ⟨⟨kf_0, Nat.le_of_ble_eq_true rfl⟩, Nat.le_refl _, _, rfl, Sp_E h1⟩⟩)))))
theorem w0_26 {X : (Nat → Int) × Nat} {d : Nat} {s : mSt} {Q : mQ} {i : Int} (a1 : 0 ≤ w32 (i + 1) ∧ w32 (i + 1) < X.2) (a2 : 0 ≤ w32 (i + 2) ∧ w32 (i + 2) < X.2) (h : Sp X d 148 [mR 0, mI (X.1 (w32 (i + 1)).toNat), mI (X.1 (w32 (i + 2)).toNat)] s (fun r t => ∃ v : Int, r = some (mI v) ∧ Sp X d 283 [mR 407, mI (X.1 (w32 (i + 1)).toNat), mI (X.1 (w32 (i + 2)).toNat)] t (fun r u => ∃ v' : Int, r = some (mI v') ∧ v = v' ∧ Wp X (d + 1) 0 1435 [some (mX 0), some (mR 0), some (mR 407), some (mI i)] [] u Q))) : Wp X (d + 1) 0 970 [some (mX 0), some (mR 0), some (mR 407), some (mI i)] [] s Q :=
  have g : ∀ (v : Int) (t : mSt), Sp X d 283 [mR 407, mI (X.1 (w32 (i + 1)).toNat), mI (X.1 (w32 (i + 2)).toNat)] t (fun r u => ∃ v' : Int, r = some (mI v') ∧ v = v' ∧ Wp X (d + 1) 0 1435 [some (mX 0), some (mR 0), some (mR 407), some (mI i)] [] u Q) → Wp X (d + 1) 0 984 [some (mX 0), some (mR 0), some (mR 407), some (mI i)] [mI v] t Q := fun v t h2 =>
    have h3 : Sp X d 283 [mR 407, mI (X.1 (w32 (i + 1)).toNat), mI (X.1 (w32 (i + 2)).toNat)] t (fun r u => ∃ v' : Int, r = some (mI v') ∧ Wp X (d + 1) 0 998 [some (mX 0), some (mR 0), some (mR 407), some (mI i)] [mI v', mI v] u Q) := h2.imp (fun r u ⟨v', e, e2, z⟩ => ⟨v', e, Wp_step0 f0_998 ⟨fun _ => z, fun y => absurd e2 y⟩⟩)
    Wp_step0 f0_984 (Wp_step0 f0_985 (Wp_step0 f0_986 (Wp_step0 f0_987 (Wp_step0 f0_988 (Wp_step0 f0_989 ⟨rfl, a1.1, a1.2, Wp_step0 f0_990 (Wp_step0 f0_991 (Wp_step0 f0_992 (Wp_step0 f0_993 (Wp_step0 f0_994 ⟨rfl, a2.1, a2.2, Wp_step0 f0_995 ⟨⟨kf_407, Nat.le_of_ble_eq_true rfl⟩, Nat.le_refl _, _, rfl, Sp_E h3⟩⟩))))⟩)))))
  have h1 : Sp X d 148 [mR 0, mI (X.1 (w32 (i + 1)).toNat), mI (X.1 (w32 (i + 2)).toNat)] s (fun r t => ∃ v : Int, r = some (mI v) ∧ Wp X (d + 1) 0 984 [some (mX 0), some (mR 0), some (mR 407), some (mI i)] [mI v] t Q) := h.imp (fun r t ⟨v, e, z⟩ => ⟨v, e, g v t z⟩)
  Wp_step0 f0_970 (Wp_step0 f0_971 (Wp_step0 f0_972 (Wp_step0 f0_973 (Wp_step0 f0_974 (Wp_step0 f0_975 ⟨rfl, a1.1, a1.2, Wp_step0 f0_976 (Wp_step0 f0_977 (Wp_step0 f0_978 (Wp_step0 f0_979 (Wp_step0 f0_980 ⟨rfl, a2.1, a2.2, Wp_step0 f0_981 ⟨⟨kf_0, Nat.le_of_ble_eq_true rfl⟩, Nat.le_refl _, _, rfl, Sp_E h1⟩⟩))))⟩)))))
theorem w0_27 {X : (Nat → Int) × Nat} {d : Nat} {s : mSt} {Q : mQ} {i : Int} (a1 : 0 ≤ w32 (i + 1) ∧ w32 (i + 1) < X.2) (a2 : 0 ≤ w32 (i + 2) ∧ w32 (i + 2) < X.2) (h : Sp X d 149 [mR 0, mI (X.1 (w32 (i + 1)).toNat), mI (X.1 (w32 (i + 2)).toNat)] s (fun r t => ∃ v : Int, r = some (mI v) ∧ Sp X d 286 [mR 407, mI (X.1 (w32 (i + 1)).toNat), mI (X.1 (w32 (i + 2)).toNat)] t (fun r u => ∃ v' : Int, r = some (mI v') ∧ v = v' ∧ Wp X (d + 1) 0 1435 [some (mX 0), some (mR 0), some (mR 407), some (mI i)] [] u Q))) : Wp X (d + 1) 0 1003 [some (mX 0), some (mR 0), some (mR 407), some (mI i)] [] s Q :=
  have g : ∀ (v : Int) (t : mSt), Sp X d 286 [mR 407, mI (X.1 (w32 (i + 1)).toNat), mI (X.1 (w32 (i + 2)).toNat)] t (fun r u => ∃ v' : Int, r = some (mI v') ∧ v = v' ∧ Wp X (d + 1) 0 1435 [some (mX 0), some (mR 0), some (mR 407), some (mI i)] [] u Q) → Wp X (d + 1) 0 1017 [some (mX 0), some (mR 0), some (mR 407), some (mI i)] [mI v] t Q := fun v t h2 =>
    have h3 : Sp X d 286 [mR 407, mI (X.1 (w32 (i + 1)).toNat), mI (X.1 (w32 (i + 2)).toNat)] t (fun r u => ∃ v' : Int, r = some (mI v') ∧ Wp X (d + 1) 0 1031 [some (mX 0), some (mR 0), some (mR 407), some (mI i)] [mI v', mI v] u Q) := h2.imp (fun r u ⟨v', e, e2, z⟩ => ⟨v', e, Wp_step0 f0_1031 ⟨fun _ => z, fun y => absurd e2 y⟩⟩)
    Wp_step0 f0_1017 (Wp_step0 f0_1018 (Wp_step0 f0_1019 (Wp_step0 f0_1020 (Wp_step0 f0_1021 (Wp_step0 f0_1022 ⟨rfl, a1.1, a1.2, Wp_step0 f0_1023 (Wp_step0 f0_1024 (Wp_step0 f0_1025 (Wp_step0 f0_1026 (Wp_step0 f0_1027 ⟨rfl, a2.1, a2.2, Wp_step0 f0_1028 ⟨⟨kf_407, Nat.le_of_ble_eq_true rfl⟩, Nat.le_refl _, _, rfl, Sp_E h3⟩⟩))))⟩)))))
  have h1 : Sp X d 149 [mR 0, mI (X.1 (w32 (i + 1)).toNat), mI (X.1 (w32 (i + 2)).toNat)] s (fun r t => ∃ v : Int, r = some (mI v) ∧ Wp X (d + 1) 0 1017 [some (mX 0), some (mR 0), some (mR 407), some (mI i)] [mI v] t Q) := h.imp (fun r t ⟨v, e, z⟩ => ⟨v, e, g v t z⟩)
  Wp_step0 f0_1003 (Wp_step0 f0_1004 (Wp_step0 f0_1005 (Wp_step0 f0_1006 (Wp_step0 f0_1007 (Wp_step0 f0_1008 ⟨rfl, a1.1, a1.2, Wp_step0 f0_1009 (Wp_step0 f0_1010 (Wp_step0 f0_1011 (Wp_step0 f0_1012 (Wp_step0 f0_1013 ⟨rfl, a2.1, a2.2, Wp_step0 f0_1014 ⟨⟨kf_0, Nat.le_of_ble_eq_true rfl⟩, Nat.le_refl _, _, rfl, Sp_E h1⟩⟩))))⟩)))))
theorem w0_28 {X : (Nat → Int) × Nat} {d : Nat} {s : mSt} {Q : mQ} {i : Int} (a1 : 0 ≤ w32 (i + 1) ∧ w32 (i + 1) < X.2) (h : Sp X d 150 [mR 0, mI (X.1 (w32 (i + 1)).toNat)] s (fun r t => ∃ v : Int, r = some (mI v) ∧ Sp X d 287 [mR 407, mI (X.1 (w32 (i + 1)).toNat)] t (fun r u => ∃ v' : Int, r = some (mI v') ∧ v = v' ∧ Wp X (d + 1) 0 1435 [some (mX 0), some (mR 0), some (mR 407), some (mI i)] [] u Q))) : Wp X (d + 1) 0 1036 [some (mX 0), some (mR 0), some (mR 407), some (mI i)] [] s Q :=
  have g : ∀ (v : Int) (t : mSt), Sp X d 287 [mR 407, mI (X.1 (w32 (i + 1)).toNat)] t (fun r u => ∃ v' : Int, r = some (mI v') ∧ v = v' ∧ Wp X (d + 1) 0 1435 [some (mX 0), some (mR 0), some (mR 407), some (mI i)] [] u Q) → Wp X (d + 1) 0 1045 [some (mX 0), some (mR 0), some (mR 407), some (mI i)] [mI v] t Q := fun v t h2 =>
    have h3 : Sp X d 287 [mR 407, mI (X.1 (w32 (i + 1)).toNat)] t (fun r u => ∃ v' : Int, r = some (mI v') ∧ Wp X (d + 1) 0 1054 [some (mX 0), some (mR 0), some (mR 407), some (mI i)] [mI v', mI v] u Q) := h2.imp (fun r u ⟨v', e, e2, z⟩ => ⟨v', e, Wp_step0 f0_1054 ⟨fun _ => z, fun y => absurd e2 y⟩⟩)
    Wp_step0 f0_1045 (Wp_step0 f0_1046 (Wp_step0 f0_1047 (Wp_step0 f0_1048 (Wp_step0 f0_1049 (Wp_step0 f0_1050 ⟨rfl, a1.1, a1.2, Wp_step0 f0_1051 ⟨⟨kf_407, Nat.le_of_ble_eq_true rfl⟩, Nat.le_refl _, _, rfl, Sp_E h3⟩⟩)))))
  have h1 : Sp X d 150 [mR 0, mI (X.1 (w32 (i + 1)).toNat)] s (fun r t => ∃ v : Int, r = some (mI v) ∧ Wp X (d + 1) 0 1045 [some (mX 0), some (mR 0), some (mR 407), some (mI i)] [mI v] t Q) := h.imp (fun r t ⟨v, e, z⟩ => ⟨v, e, g v t z⟩)
  Wp_step0 f0_1036 (Wp_step0 f0_1037 (Wp_step0 f0_1038 (Wp_step0 f0_1039 (Wp_step0 f0_1040 (Wp_step0 f0_1041 ⟨rfl, a1.1, a1.2, Wp_step0 f0_1042 ⟨⟨kf_0, Nat.le_of_ble_eq_true rfl⟩, Nat.le_refl _, _, rfl, Sp_E h1⟩⟩)))))
theorem w0_29 {X : (Nat → Int) × Nat} {d : Nat} {s : mSt} {Q : mQ} {i : Int} (a1 : 0 ≤ w32 (i + 1) ∧ w32 (i + 1) < X.2) (a2 : 0 ≤ w32 (i + 2) ∧ w32 (i + 2) < X.2) (h : Sp X d 151 [mR 0, mI (X.1 (w32 (i + 1)).toNat), mI (X.1 (w32 (i + 2)).toNat)] s (fun r t => ∃ v : Int, r = some (mI v) ∧ Sp X d 301 [mR 407, mI (X.1 (w32 (i + 1)).toNat), mI (X.1 (w32 (i + 2)).toNat)] t (fun r u => ∃ v' : Int, r = some (mI v') ∧ v = v' ∧ Wp X (d + 1) 0 1435 [some (mX 0), some (mR 0), some (mR 407), some (mI i)] [] u Q))) : Wp X (d + 1) 0 1059 [some (mX 0), some (mR 0), some (mR 407), some (mI i)] [] s Q :=
  have g : ∀ (v : Int) (t : mSt), Sp X d 301 [mR 407, mI (X.1 (w32 (i + 1)).toNat), mI (X.1 (w32 (i + 2)).toNat)] t (fun r u => ∃ v' : Int, r = some (mI v') ∧ v = v' ∧ Wp X (d + 1) 0 1435 [some (mX 0), some (mR 0), some (mR 407), some (mI i)] [] u Q) → Wp X (d + 1) 0 1073 [some (mX 0), some (mR 0), some (mR 407), some (mI i)] [mI v] t Q := fun v t h2 =>
    have h3 : Sp X d 301 [mR 407, mI (X.1 (w32 (i + 1)).toNat), mI (X.1 (w32 (i + 2)).toNat)] t (fun r u => ∃ v' : Int, r = some (mI v') ∧ Wp X (d + 1) 0 1087 [some (mX 0), some (mR 0), some (mR 407), some (mI i)] [mI v', mI v] u Q) := h2.imp (fun r u ⟨v', e, e2, z⟩ => ⟨v', e, Wp_step0 f0_1087 ⟨fun _ => z, fun y => absurd e2 y⟩⟩)
    Wp_step0 f0_1073 (Wp_step0 f0_1074 (Wp_step0 f0_1075 (Wp_step0 f0_1076 (Wp_step0 f0_1077 (Wp_step0 f0_1078 ⟨rfl, a1.1, a1.2, Wp_step0 f0_1079 (Wp_step0 f0_1080 (Wp_step0 f0_1081 (Wp_step0 f0_1082 (Wp_step0 f0_1083 ⟨rfl, a2.1, a2.2, Wp_step0 f0_1084 ⟨⟨kf_407, Nat.le_of_ble_eq_true rfl⟩, Nat.le_refl _, _, rfl, Sp_E h3⟩⟩))))⟩)))))
  have h1 : Sp X d 151 [mR 0, mI (X.1 (w32 (i + 1)).toNat), mI (X.1 (w32 (i + 2)).toNat)] s (fun r t => ∃ v : Int, r = some (mI v) ∧ Wp X (d + 1) 0 1073 [some (mX 0), some (mR 0), some (mR 407), some (mI i)] [mI v] t Q) := h.imp (fun r t ⟨v, e, z⟩ => ⟨v, e, g v t z⟩)
  Wp_step0 f0_1059 (Wp_step0 f0_1060 (Wp_step0 f0_1061 (Wp_step0 f0_1062 (Wp_step0 f0_1063 (Wp_step0 f0_1064 ⟨rfl, a1.1, a1.2, Wp_step0 f0_1065 (Wp_step0 f0_1066 (Wp_step0 f0_1067 (Wp_step0 f0_1068 (Wp_step0 f0_1069 ⟨rfl, a2.1, a2.2, Wp_step0 f0_1070 ⟨⟨kf_0, Nat.le_of_ble_eq_true rfl⟩, Nat.le_refl _, _, rfl, Sp_E h1⟩⟩))))⟩)))))
theorem w0_30 {X : (Nat → Int) × Nat} {d : Nat} {s : mSt} {Q : mQ} {i : Int} (a1 : 0 ≤ w32 (i + 1) ∧ w32 (i + 1) < X.2) (h : Sp X d 152 [mR 0, mI (X.1 (w32 (i + 1)).toNat)] s (fun r t => ∃ v : Int, r = some (mI v) ∧ Sp X d 302 [mR 407, mI (X.1 (w32 (i + 1)).toNat)] t (fun r u => ∃ v' : Int, r = some (mI v') ∧ v = v' ∧ Wp X (d + 1) 0 1435 [some (mX 0), some (mR 0), some (mR 407), some (mI i)] [] u Q))) : Wp X (d + 1) 0 1092 [some (mX 0), some (mR 0), some (mR 407), some (mI i)] [] s Q :=
  have g : ∀ (v : Int) (t : mSt), Sp X d 302 [mR 407, mI (X.1 (w32 (i + 1)).toNat)] t (fun r u => ∃ v' : Int, r = some (mI v') ∧ v = v' ∧ Wp X (d + 1) 0 1435 [some (mX 0), some (mR 0), some (mR 407), some (mI i)] [] u Q) → Wp X (d + 1) 0 1101 [some (mX 0), some (mR 0), some (mR 407), some (mI i)] [mI v] t Q := fun v t h2 =>
    have h3 : Sp X d 302 [mR 407, mI (X.1 (w32 (i + 1)).toNat)] t (fun r u => ∃ v' : Int, r = some (mI v') ∧ Wp X (d + 1) 0 1110 [some (mX 0), some (mR 0), some (mR 407), some (mI i)] [mI v', mI v] u Q) := h2.imp (fun r u ⟨v', e, e2, z⟩ => ⟨v', e, Wp_step0 f0_1110 ⟨fun _ => z, fun y => absurd e2 y⟩⟩)
    Wp_step0 f0_1101 (Wp_step0 f0_1102 (Wp_step0 f0_1103 (Wp_step0 f0_1104 (Wp_step0 f0_1105 (Wp_step0 f0_1106 ⟨rfl, a1.1, a1.2, Wp_step0 f0_1107 ⟨⟨kf_407, Nat.le_of_ble_eq_true rfl⟩, Nat.le_refl _, _, rfl, Sp_E h3⟩⟩)))))
  have h1 : Sp X d 152 [mR 0, mI (X.1 (w32 (i + 1)).toNat)] s (fun r t => ∃ v : Int, r = some (mI v) ∧ Wp X (d + 1) 0 1101 [some (mX 0), some (mR 0), some (mR 407), some (mI i)] [mI v] t Q) := h.imp (fun r t ⟨v, e, z⟩ => ⟨v, e, g v t z⟩)
  Wp_step0 f0_1092 (Wp_step0 f0_1093 (Wp_step0 f0_1094 (Wp_step0 f0_1095 (Wp_step0 f0_1096 (Wp_step0 f0_1097 ⟨rfl, a1.1, a1.2, Wp_step0 f0_1098 ⟨⟨kf_0, Nat.le_of_ble_eq_true rfl⟩, Nat.le_refl _, _, rfl, Sp_E h1⟩⟩)))))
theorem w0_31 {X : (Nat → Int) × Nat} {d : Nat} {s : mSt} {Q : mQ} {i : Int} (a1 : 0 ≤ w32 (i + 1) ∧ w32 (i + 1) < X.2) (a2 : 0 ≤ w32 (i + 2) ∧ w32 (i + 2) < X.2) (a3 : 0 ≤ w32 (i + 3) ∧ w32 (i + 3) < X.2) (h : Sp X d 153 [mR 0, mI (X.1 (w32 (i + 1)).toNat), mI (X.1 (w32 (i + 2)).toNat), mI (X.1 (w32 (i + 3)).toNat)] s (fun r t => ∃ v : Int, r = some (mI v) ∧ Sp X d 291 [mR 407, mI (X.1 (w32 (i + 1)).toNat), mI (X.1 (w32 (i + 2)).toNat), mI (X.1 (w32 (i + 3)).toNat)] t (fun r u => ∃ v' : Int, r = some (mI v') ∧ v = v' ∧ Wp X (d + 1) 0 1435 [some (mX 0), some (mR 0), some (mR 407), some (mI i)] [] u Q))) : Wp X (d + 1) 0 1115 [some (mX 0), some (mR 0), some (mR 407), some (mI i)] [] s Q :=
  have g : ∀ (v : Int) (t : mSt), Sp X d 291 [mR 407, mI (X.1 (w32 (i + 1)).toNat), mI (X.1 (w32 (i + 2)).toNat), mI (X.1 (w32 (i + 3)).toNat)] t (fun r u => ∃ v' : Int, r = some (mI v') ∧ v = v' ∧ Wp X (d + 1) 0 1435 [some (mX 0), some (mR 0), some (mR 407), some (mI i)] [] u Q) → Wp X (d + 1) 0 1134 [some (mX 0), some (mR 0), some (mR 407), some (mI i)] [mI v] t Q := fun v t h2 =>
    have h3 : Sp X d 291 [mR 407, mI (X.1 (w32 (i + 1)).toNat), mI (X.1 (w32 (i + 2)).toNat), mI (X.1 (w32 (i + 3)).toNat)] t (fun r u => ∃ v' : Int, r = some (mI v') ∧ Wp X (d + 1) 0 1153 [some (mX 0), some (mR 0), some (mR 407), some (mI i)] [mI v', mI v] u Q) := h2.imp (fun r u ⟨v', e, e2, z⟩ => ⟨v', e, Wp_step0 f0_1153 ⟨fun _ => z, fun y => absurd e2 y⟩⟩)
    Wp_step0 f0_1134 (Wp_step0 f0_1135 (Wp_step0 f0_1136 (Wp_step0 f0_1137 (Wp_step0 f0_1138 (Wp_step0 f0_1139 ⟨rfl, a1.1, a1.2, Wp_step0 f0_1140 (Wp_step0 f0_1141 (Wp_step0 f0_1142 (Wp_step0 f0_1143 (Wp_step0 f0_1144 ⟨rfl, a2.1, a2.2, Wp_step0 f0_1145 (Wp_step0 f0_1146 (Wp_step0 f0_1147 (Wp_step0 f0_1148 (Wp_step0 f0_1149 ⟨rfl, a3.1, a3.2, Wp_step0 f0_1150 ⟨⟨kf_407, Nat.le_of_ble_eq_true rfl⟩, Nat.le_refl _, _, rfl, Sp_E h3⟩⟩))))⟩))))⟩)))))
  have h1 : Sp X d 153 [mR 0, mI (X.1 (w32 (i + 1)).toNat), mI (X.1 (w32 (i + 2)).toNat), mI (X.1 (w32 (i + 3)).toNat)] s (fun r t => ∃ v : Int, r = some (mI v) ∧ Wp X (d + 1) 0 1134 [some (mX 0), some (mR 0), some (mR 407), some (mI i)] [mI v] t Q) := h.imp (fun r t ⟨v, e, z⟩ => ⟨v, e, g v t z⟩)
  Wp_step0 f0_1115 (Wp_step0 f0_1116 (Wp_step0 f0_1117 (Wp_step0 f0_1118 (Wp_step0 f0_1119 (Wp_step0 f0_1120 ⟨rfl, a1.1, a1.2, Wp_step0 f0_1121 (Wp_step0 f0_1122 (Wp_step0 f0_1123 (Wp_step0 f0_1124 (Wp_step0 f0_1125 ⟨rfl, a2.1, a2.2, Wp_step0 f0_1126 (Wp_step0 f0_1127 (Wp_step0 f0_1128 (Wp_step0 f0_1129 (Wp_step0 f0_1130 ⟨rfl, a3.1, a3.2, Wp_step0 f0_1131 ⟨⟨kf_0, Nat.le_of_ble_eq_true rfl⟩, Nat.le_refl _, _, rfl, Sp_E h1⟩⟩))))⟩))))⟩)))))
theorem w0_32 {X : (Nat → Int) × Nat} {d : Nat} {s : mSt} {Q : mQ} {i : Int} (a1 : 0 ≤ w32 (i + 1) ∧ w32 (i + 1) < X.2) (a2 : 0 ≤ w32 (i + 2) ∧ w32 (i + 2) < X.2) (h : Sp X d 154 [mR 0, mI (X.1 (w32 (i + 1)).toNat), mI (X.1 (w32 (i + 2)).toNat)] s (fun r t => ∃ v : Int, r = some (mI v) ∧ Sp X d 292 [mR 407, mI (X.1 (w32 (i + 1)).toNat), mI (X.1 (w32 (i + 2)).toNat)] t (fun r u => ∃ v' : Int, r = some (mI v') ∧ v = v' ∧ Wp X (d + 1) 0 1435 [some (mX 0), some (mR 0), some (mR 407), some (mI i)] [] u Q))) : Wp X (d + 1) 0 1158 [some (mX 0), some (mR 0), some (mR 407), some (mI i)] [] s Q :=
  have g : ∀ (v : Int) (t : mSt), Sp X d 292 [mR 407, mI (X.1 (w32 (i + 1)).toNat), mI (X.1 (w32 (i + 2)).toNat)] t (fun r u => ∃ v' : Int, r = some (mI v') ∧ v = v' ∧ Wp X (d + 1) 0 1435 [some (mX 0), some (mR 0), some (mR 407), some (mI i)] [] u Q) → Wp X (d + 1) 0 1172 [some (mX 0), some (mR 0), some (mR 407), some (mI i)] [mI v] t Q := fun v t h2 =>
    have h3 : Sp X d 292 [mR 407, mI (X.1 (w32 (i + 1)).toNat), mI (X.1 (w32 (i + 2)).toNat)] t (fun r u => ∃ v' : Int, r = some (mI v') ∧ Wp X (d + 1) 0 1186 [some (mX 0), some (mR 0), some (mR 407), some (mI i)] [mI v', mI v] u Q) := h2.imp (fun r u ⟨v', e, e2, z⟩ => ⟨v', e, Wp_step0 f0_1186 ⟨fun _ => z, fun y => absurd e2 y⟩⟩)
    Wp_step0 f0_1172 (Wp_step0 f0_1173 (Wp_step0 f0_1174 (Wp_step0 f0_1175 (Wp_step0 f0_1176 (Wp_step0 f0_1177 ⟨rfl, a1.1, a1.2, Wp_step0 f0_1178 (Wp_step0 f0_1179 (Wp_step0 f0_1180 (Wp_step0 f0_1181 (Wp_step0 f0_1182 ⟨rfl, a2.1, a2.2, Wp_step0 f0_1183 ⟨⟨kf_407, Nat.le_of_ble_eq_true rfl⟩, Nat.le_refl _, _, rfl, Sp_E h3⟩⟩))))⟩)))))
  have h1 : Sp X d 154 [mR 0, mI (X.1 (w32 (i + 1)).toNat), mI (X.1 (w32 (i + 2)).toNat)] s (fun r t => ∃ v : Int, r = some (mI v) ∧ Wp X (d + 1) 0 1172 [some (mX 0), some (mR 0), some (mR 407), some (mI i)] [mI v] t Q) := h.imp (fun r t ⟨v, e, z⟩ => ⟨v, e, g v t z⟩)
  Wp_step0 f0_1158 (Wp_step0 f0_1159 (Wp_step0 f0_1160 (Wp_step0 f0_1161 (Wp_step0 f0_1162 (Wp_step0 f0_1163 ⟨rfl, a1.1, a1.2, Wp_step0 f0_1164 (Wp_step0 f0_1165 (Wp_step0 f0_1166 (Wp_step0 f0_1167 (Wp_step0 f0_1168 ⟨rfl, a2.1, a2.2, Wp_step0 f0_1169 ⟨⟨kf_0, Nat.le_of_ble_eq_true rfl⟩, Nat.le_refl _, _, rfl, Sp_E h1⟩⟩))))⟩)))))
theorem w0_33 {X : (Nat → Int) × Nat} {d : Nat} {s : mSt} {Q : mQ} {i : Int} (a1 : 0 ≤ w32 (i + 1) ∧ w32 (i + 1) < X.2) (a2 : 0 ≤ w32 (i + 2) ∧ w32 (i + 2) < X.2) (a3 : 0 ≤ w32 (i + 3) ∧ w32 (i + 3) < X.2) (h : Sp X d 155 [mR 0, mI (X.1 (w32 (i + 1)).toNat), mI (X.1 (w32 (i + 2)).toNat), mI (X.1 (w32 (i + 3)).toNat)] s (fun r t => ∃ v : Int, r = some (mI v) ∧ Sp X d 293 [mR 407, mI (X.1 (w32 (i + 1)).toNat), mI (X.1 (w32 (i + 2)).toNat), mI (X.1 (w32 (i + 3)).toNat)] t (fun r u => ∃ v' : Int, r = some (mI v') ∧ v = v' ∧ Wp X (d + 1) 0 1435 [some (mX 0), some (mR 0), some (mR 407), some (mI i)] [] u Q))) : Wp X (d + 1) 0 1191 [some (mX 0), some (mR 0), some (mR 407), some (mI i)] [] s Q :=
  have g : ∀ (v : Int) (t : mSt), Sp X d 293 [mR 407, mI (X.1 (w32 (i + 1)).toNat), mI (X.1 (w32 (i + 2)).toNat), mI (X.1 (w32 (i + 3)).toNat)] t (fun r u => ∃ v' : Int, r = some (mI v') ∧ v = v' ∧ Wp X (d + 1) 0 1435 [some (mX 0), some (mR 0), some (mR 407), some (mI i)] [] u Q) → Wp X (d + 1) 0 1210 [some (mX 0), some (mR 0), some (mR 407), some (mI i)] [mI v] t Q := fun v t h2 =>
    have h3 : Sp X d 293 [mR 407, mI (X.1 (w32 (i + 1)).toNat), mI (X.1 (w32 (i + 2)).toNat), mI (X.1 (w32 (i + 3)).toNat)] t (fun r u => ∃ v' : Int, r = some (mI v') ∧ Wp X (d + 1) 0 1229 [some (mX 0), some (mR 0), some (mR 407), some (mI i)] [mI v', mI v] u Q) := h2.imp (fun r u ⟨v', e, e2, z⟩ => ⟨v', e, Wp_step0 f0_1229 ⟨fun _ => z, fun y => absurd e2 y⟩⟩)
    Wp_step0 f0_1210 (Wp_step0 f0_1211 (Wp_step0 f0_1212 (Wp_step0 f0_1213 (Wp_step0 f0_1214 (Wp_step0 f0_1215 ⟨rfl, a1.1, a1.2, Wp_step0 f0_1216 (Wp_step0 f0_1217 (Wp_step0 f0_1218 (Wp_step0 f0_1219 (Wp_step0 f0_1220 ⟨rfl, a2.1, a2.2, Wp_step0 f0_1221 (Wp_step0 f0_1222 (Wp_step0 f0_1223 (Wp_step0 f0_1224 (Wp_step0 f0_1225 ⟨rfl, a3.1, a3.2, Wp_step0 f0_1226 ⟨⟨kf_407, Nat.le_of_ble_eq_true rfl⟩, Nat.le_refl _, _, rfl, Sp_E h3⟩⟩))))⟩))))⟩)))))
  have h1 : Sp X d 155 [mR 0, mI (X.1 (w32 (i + 1)).toNat), mI (X.1 (w32 (i + 2)).toNat), mI (X.1 (w32 (i + 3)).toNat)] s (fun r t => ∃ v : Int, r = some (mI v) ∧ Wp X (d + 1) 0 1210 [some (mX 0), some (mR 0), some (mR 407), some (mI i)] [mI v] t Q) := h.imp (fun r t ⟨v, e, z⟩ => ⟨v, e, g v t z⟩)
  Wp_step0 f0_1191 (Wp_step0 f0_1192 (Wp_step0 f0_1193 (Wp_step0 f0_1194 (Wp_step0 f0_1195 (Wp_step0 f0_1196 ⟨rfl, a1.1, a1.2, Wp_step0 f0_1197 (Wp_step0 f0_1198 (Wp_step0 f0_1199 (Wp_step0 f0_1200 (Wp_step0 f0_1201 ⟨rfl, a2.1, a2.2, Wp_step0 f0_1202 (Wp_step0 f0_1203 (Wp_step0 f0_1204 (Wp_step0 f0_1205 (Wp_step0 f0_1206 ⟨rfl, a3.1, a3.2, Wp_step0 f0_1207 ⟨⟨kf_0, Nat.le_of_ble_eq_true rfl⟩, Nat.le_refl _, _, rfl, Sp_E h1⟩⟩))))⟩))))⟩)))))
theorem w0_34 {X : (Nat → Int) × Nat} {d : Nat} {s : mSt} {Q : mQ} {i : Int} (a1 : 0 ≤ w32 (i + 1) ∧ w32 (i + 1) < X.2) (h : Sp X d 156 [mR 0, mI (X.1 (w32 (i + 1)).toNat)] s (fun r t => ∃ v : Int, r = some (mI v) ∧ Sp X d 297 [mR 407, mI (X.1 (w32 (i + 1)).toNat)] t (fun r u => ∃ v' : Int, r = some (mI v') ∧ v = v' ∧ Wp X (d + 1) 0 1435 [some (mX 0), some (mR 0), some (mR 407), some (mI i)] [] u Q))) : Wp X (d + 1) 0 1234 [some (mX 0), some (mR 0), some (mR 407), some (mI i)] [] s Q :=
  have g : ∀ (v : Int) (t : mSt), Sp X d 297 [mR 407, mI (X.1 (w32 (i + 1)).toNat)] t (fun r u => ∃ v' : Int, r = some (mI v') ∧ v = v' ∧ Wp X (d + 1) 0 1435 [some (mX 0), some (mR 0), some (mR 407), some (mI i)] [] u Q) → Wp X (d + 1) 0 1243 [some (mX 0), some (mR 0), some (mR 407), some (mI i)] [mI v] t Q := fun v t h2 =>
    have h3 : Sp X d 297 [mR 407, mI (X.1 (w32 (i + 1)).toNat)] t (fun r u => ∃ v' : Int, r = some (mI v') ∧ Wp X (d + 1) 0 1252 [some (mX 0), some (mR 0), some (mR 407), some (mI i)] [mI v', mI v] u Q) := h2.imp (fun r u ⟨v', e, e2, z⟩ => ⟨v', e, Wp_step0 f0_1252 ⟨fun _ => z, fun y => absurd e2 y⟩⟩)
    Wp_step0 f0_1243 (Wp_step0 f0_1244 (Wp_step0 f0_1245 (Wp_step0 f0_1246 (Wp_step0 f0_1247 (Wp_step0 f0_1248 ⟨rfl, a1.1, a1.2, Wp_step0 f0_1249 ⟨⟨kf_407, Nat.le_of_ble_eq_true rfl⟩, Nat.le_refl _, _, rfl, Sp_E h3⟩⟩)))))
  have h1 : Sp X d 156 [mR 0, mI (X.1 (w32 (i + 1)).toNat)] s (fun r t => ∃ v : Int, r = some (mI v) ∧ Wp X (d + 1) 0 1243 [some (mX 0), some (mR 0), some (mR 407), some (mI i)] [mI v] t Q) := h.imp (fun r t ⟨v, e, z⟩ => ⟨v, e, g v t z⟩)
  Wp_step0 f0_1234 (Wp_step0 f0_1235 (Wp_step0 f0_1236 (Wp_step0 f0_1237 (Wp_step0 f0_1238 (Wp_step0 f0_1239 ⟨rfl, a1.1, a1.2, Wp_step0 f0_1240 ⟨⟨kf_0, Nat.le_of_ble_eq_true rfl⟩, Nat.le_refl _, _, rfl, Sp_E h1⟩⟩)))))
theorem w0_35 {X : (Nat → Int) × Nat} {d : Nat} {s : mSt} {Q : mQ} {i : Int} (a1 : 0 ≤ w32 (i + 1) ∧ w32 (i + 1) < X.2) (a2 : 0 ≤ w32 (i + 2) ∧ w32 (i + 2) < X.2) (h : Sp X d 157 [mR 0, mI (X.1 (w32 (i + 1)).toNat), mI (X.1 (w32 (i + 2)).toNat)] s (fun r t => ∃ v : Int, r = some (mI v) ∧ Sp X d 299 [mR 407, mI (X.1 (w32 (i + 1)).toNat), mI (X.1 (w32 (i + 2)).toNat)] t (fun r u => ∃ v' : Int, r = some (mI v') ∧ v = v' ∧ Wp X (d + 1) 0 1435 [some (mX 0), some (mR 0), some (mR 407), some (mI i)] [] u Q))) : Wp X (d + 1) 0 1257 [some (mX 0), some (mR 0), some (mR 407), some (mI i)] [] s Q :=
  have g : ∀ (v : Int) (t : mSt), Sp X d 299 [mR 407, mI (X.1 (w32 (i + 1)).toNat), mI (X.1 (w32 (i + 2)).toNat)] t (fun r u => ∃ v' : Int, r = some (mI v') ∧ v = v' ∧ Wp X (d + 1) 0 1435 [some (mX 0), some (mR 0), some (mR 407), some (mI i)] [] u Q) → Wp X (d + 1) 0 1271 [some (mX 0), some (mR 0), some (mR 407), some (mI i)] [mI v] t Q := fun v t h2 =>
    have h3 : Sp X d 299 [mR 407, mI (X.1 (w32 (i + 1)).toNat), mI (X.1 (w32 (i + 2)).toNat)] t (fun r u => ∃ v' : Int, r = some (mI v') ∧ Wp X (d + 1) 0 1285 [some (mX 0), some (mR 0), some (mR 407), some (mI i)] [mI v', mI v] u Q) := h2.imp (fun r u ⟨v', e, e2, z⟩ => ⟨v', e, Wp_step0 f0_1285 ⟨fun _ => z, fun y => absurd e2 y⟩⟩)
    Wp_step0 f0_1271 (Wp_step0 f0_1272 (Wp_step0 f0_1273 (Wp_step0 f0_1274 (Wp_step0 f0_1275 (Wp_step0 f0_1276 ⟨rfl, a1.1, a1.2, Wp_step0 f0_1277 (Wp_step0 f0_1278 (Wp_step0 f0_1279 (Wp_step0 f0_1280 (Wp_step0 f0_1281 ⟨rfl, a2.1, a2.2, Wp_step0 f0_1282 ⟨⟨kf_407, Nat.le_of_ble_eq_true rfl⟩, Nat.le_refl _, _, rfl, Sp_E h3⟩⟩))))⟩)))))
  have h1 : Sp X d 157 [mR 0, mI (X.1 (w32 (i + 1)).toNat), mI (X.1 (w32 (i + 2)).toNat)] s (fun r t => ∃ v : Int, r = some (mI v) ∧ Wp X (d + 1) 0 1271 [some (mX 0), some (mR 0), some (mR 407), some (mI i)] [mI v] t Q) := h.imp (fun r t ⟨v, e, z⟩ => ⟨v, e, g v t z⟩)
  Wp_step0 f0_1257 (Wp_step0 f0_1258 (Wp_step0 f0_1259 (Wp_step0 f0_1260 (Wp_step0 f0_1261 (Wp_step0 f0_1262 ⟨rfl, a1.1, a1.2, Wp_step0 f0_1263 (Wp_step0 f0_1264 (Wp_step0 f0_1265 (Wp_step0 f0_1266 (Wp_step0 f0_1267 ⟨rfl, a2.1, a2.2, Wp_step0 f0_1268 ⟨⟨kf_0, Nat.le_of_ble_eq_true rfl⟩, Nat.le_refl _, _, rfl, Sp_E h1⟩⟩))))⟩)))))
theorem w0_36 {X : (Nat → Int) × Nat} {d : Nat} {s : mSt} {Q : mQ} {i : Int} (a1 : 0 ≤ w32 (i + 1) ∧ w32 (i + 1) < X.2) (h : Sp X d 158 [mR 0, mI (X.1 (w32 (i + 1)).toNat)] s (fun r t => ∃ v : Int, r = some (mI v) ∧ Sp X d 303 [mR 407, mI (X.1 (w32 (i + 1)).toNat)] t (fun r u => ∃ v' : Int, r = some (mI v') ∧ v = v' ∧ Wp X (d + 1) 0 1435 [some (mX 0), some (mR 0), some (mR 407), some (mI i)] [] u Q))) : Wp X (d + 1) 0 1290 [some (mX 0), some (mR 0), some (mR 407), some (mI i)] [] s Q :=
  have g : ∀ (v : Int) (t : mSt), Sp X d 303 [mR 407, mI (X.1 (w32 (i + 1)).toNat)] t (fun r u => ∃ v' : Int, r = some (mI v') ∧ v = v' ∧ Wp X (d + 1) 0 1435 [some (mX 0), some (mR 0), some (mR 407), some (mI i)] [] u Q) → Wp X (d + 1) 0 1299 [some (mX 0), some (mR 0), some (mR 407), some (mI i)] [mI v] t Q := fun v t h2 =>
    have h3 : Sp X d 303 [mR 407, mI (X.1 (w32 (i + 1)).toNat)] t (fun r u => ∃ v' : Int, r = some (mI v') ∧ Wp X (d + 1) 0 1308 [some (mX 0), some (mR 0), some (mR 407), some (mI i)] [mI v', mI v] u Q) := h2.imp (fun r u ⟨v', e, e2, z⟩ => ⟨v', e, Wp_step0 f0_1308 ⟨fun _ => z, fun y => absurd e2 y⟩⟩)
    Wp_step0 f0_1299 (Wp_step0 f0_1300 (Wp_step0 f0_1301 (Wp_step0 f0_1302 (Wp_step0 f0_1303 (Wp_step0 f0_1304 ⟨rfl, a1.1, a1.2, Wp_step0 f0_1305 ⟨⟨kf_407, Nat.le_of_ble_eq_true rfl⟩, Nat.le_refl _, _, rfl, Sp_E h3⟩⟩)))))
  have h1 : Sp X d 158 [mR 0, mI (X.1 (w32 (i + 1)).toNat)] s (fun r t => ∃ v : Int, r = some (mI v) ∧ Wp X (d + 1) 0 1299 [some (mX 0), some (mR 0), some (mR 407), some (mI i)] [mI v] t Q) := h.imp (fun r t ⟨v, e, z⟩ => ⟨v, e, g v t z⟩)
  Wp_step0 f0_1290 (Wp_step0 f0_1291 (Wp_step0 f0_1292 (Wp_step0 f0_1293 (Wp_step0 f0_1294 (Wp_step0 f0_1295 ⟨rfl, a1.1, a1.2, Wp_step0 f0_1296 ⟨⟨kf_0, Nat.le_of_ble_eq_true rfl⟩, Nat.le_refl _, _, rfl, Sp_E h1⟩⟩)))))
theorem w0_37 {X : (Nat → Int) × Nat} {d : Nat} {s : mSt} {Q : mQ} {i : Int} (a1 : 0 ≤ w32 (i + 1) ∧ w32 (i + 1) < X.2) (a2 : 0 ≤ w32 (i + 2) ∧ w32 (i + 2) < X.2) (a3 : 0 ≤ w32 (i + 3) ∧ w32 (i + 3) < X.2) (a4 : 0 ≤ w32 (i + 4) ∧ w32 (i + 4) < X.2) (h : Sp X d 159 [mR 0, mI (X.1 (w32 (i + 1)).toNat), mI (X.1 (w32 (i + 2)).toNat), mI (X.1 (w32 (i + 3)).toNat), mI (X.1 (w32 (i + 4)).toNat)] s (fun r t => ∃ v : Int, r = some (mI v) ∧ Sp X d 305 [mR 407, mI (X.1 (w32 (i + 1)).toNat), mI (X.1 (w32 (i + 2)).toNat), mI (X.1 (w32 (i + 3)).toNat), mI (X.1 (w32 (i + 4)).toNat)] t (fun r u => ∃ v' : Int, r = some (mI v') ∧ v = v' ∧ Wp X (d + 1) 0 1435 [some (mX 0), some (mR 0), some (mR 407), some (mI i)] [] u Q))) : Wp X (d + 1) 0 1313 [some (mX 0), some (mR 0), some (mR 407), some (mI i)] [] s Q :=
  have g : ∀ (v : Int) (t : mSt), Sp X d 305 [mR 407, mI (X.1 (w32 (i + 1)).toNat), mI (X.1 (w32 (i + 2)).toNat), mI (X.1 (w32 (i + 3)).toNat), mI (X.1 (w32 (i + 4)).toNat)] t (fun r u => ∃ v' : Int, r = some (mI v') ∧ v = v' ∧ Wp X (d + 1) 0 1435 [some (mX 0), some (mR 0), some (mR 407), some (mI i)] [] u Q) → Wp X (d + 1) 0 1337 [some (mX 0), some (mR 0), some (mR 407), some (mI i)] [mI v] t Q := fun v t h2 =>
    have h3 : Sp X d 305 [mR 407, mI (X.1 (w32 (i + 1)).toNat), mI (X.1 (w32 (i + 2)).toNat), mI (X.1 (w32 (i + 3)).toNat), mI (X.1 (w32 (i + 4)).toNat)] t (fun r u => ∃ v' : Int, r = some (mI v') ∧ Wp X (d + 1) 0 1361 [some (mX 0), some (mR 0), some (mR 407), some (mI i)] [mI v', mI v] u Q) := h2.imp (fun r u ⟨v', e, e2, z⟩ => ⟨v', e, Wp_step0 f0_1361 ⟨fun _ => z, fun y => absurd e2 y⟩⟩)
    Wp_step0 f0_1337 (Wp_step0 f0_1338 (Wp_step0 f0_1339 (Wp_step0 f0_1340 (Wp_step0 f0_1341 (Wp_step0 f0_1342 ⟨rfl, a1.1, a1.2, Wp_step0 f0_1343 (Wp_step0 f0_1344 (Wp_step0 f0_1345 (Wp_step0 f0_1346 (Wp_step0 f0_1347 ⟨rfl, a2.1, a2.2, Wp_step0 f0_1348 (Wp_step0 f0_1349 (Wp_step0 f0_1350 (Wp_step0 f0_1351 (Wp_step0 f0_1352 ⟨rfl, a3.1, a3.2, Wp_step0 f0_1353 (Wp_step0 f0_1354 (Wp_step0 f0_1355 (Wp_step0 f0_1356 (Wp_step0 f0_1357 ⟨rfl, a4.1, a4.2, Wp_step0 f0_1358 ⟨⟨kf_407, Nat.le_of_ble_eq_true rfl⟩, Nat.le_refl _, _, rfl, Sp_E h3⟩⟩))))⟩))))⟩))))⟩)))))
  have h1 : Sp X d 159 [mR 0, mI (X.1 (w32 (i + 1)).toNat), mI (X.1 (w32 (i + 2)).toNat), mI (X.1 (w32 (i + 3)).toNat), mI (X.1 (w32 (i + 4)).toNat)] s (fun r t => ∃ v : Int, r = some (mI v) ∧ Wp X (d + 1) 0 1337 [some (mX 0), some (mR 0), some (mR 407), some (mI i)] [mI v] t Q) := h.imp (fun r t ⟨v, e, z⟩ => ⟨v, e, g v t z⟩)
  Wp_step0 f0_1313 (Wp_step0 f0_1314 (Wp_step0 f0_1315 (Wp_step0 f0_1316 (Wp_step0 f0_1317 (Wp_step0 f0_1318 ⟨rfl, a1.1, a1.2, Wp_step0 f0_1319 (Wp_step0 f0_1320 (Wp_step0 f0_1321 (Wp_step0 f0_1322 (Wp_step0 f0_1323 ⟨rfl, a2.1, a2.2, Wp_step0 f0_1324 (Wp_step0 f0_1325 (Wp_step0 f0_1326 (Wp_step0 f0_1327 (Wp_step0 f0_1328 ⟨rfl, a3.1, a3.2, Wp_step0 f0_1329 (Wp_step0 f0_1330 (Wp_step0 f0_1331 (Wp_step0 f0_1332 (Wp_step0 f0_1333 ⟨rfl, a4.1, a4.2, Wp_step0 f0_1334 ⟨⟨kf_0, Nat.le_of_ble_eq_true rfl⟩, Nat.le_refl _, _, rfl, Sp_E h1⟩⟩))))⟩))))⟩))))⟩)))))
theorem w0_38 {X : (Nat → Int) × Nat} {d : Nat} {s : mSt} {Q : mQ} {i : Int} (a1 : 0 ≤ w32 (i + 1) ∧ w32 (i + 1) < X.2) (h : Sp X d 160 [mR 0, mI (X.1 (w32 (i + 1)).toNat)] s (fun r t => ∃ v : Int, r = some (mI v) ∧ Sp X d 306 [mR 407, mI (X.1 (w32 (i + 1)).toNat)] t (fun r u => ∃ v' : Int, r = some (mI v') ∧ v = v' ∧ Wp X (d + 1) 0 1435 [some (mX 0), some (mR 0), some (mR 407), some (mI i)] [] u Q))) : Wp X (d + 1) 0 1366 [some (mX 0), some (mR 0), some (mR 407), some (mI i)] [] s Q :=
  have g : ∀ (v : Int) (t : mSt), Sp X d 306 [mR 407, mI (X.1 (w32 (i + 1)).toNat)] t (fun r u => ∃ v' : Int, r = some (mI v') ∧ v = v' ∧ Wp X (d + 1) 0 1435 [some (mX 0), some (mR 0), some (mR 407), some (mI i)] [] u Q) → Wp X (d + 1) 0 1375 [some (mX 0), some (mR 0), some (mR 407), some (mI i)] [mI v] t Q := fun v t h2 =>
    have h3 : Sp X d 306 [mR 407, mI (X.1 (w32 (i + 1)).toNat)] t (fun r u => ∃ v' : Int, r = some (mI v') ∧ Wp X (d + 1) 0 1384 [some (mX 0), some (mR 0), some (mR 407), some (mI i)] [mI v', mI v] u Q) := h2.imp (fun r u ⟨v', e, e2, z⟩ => ⟨v', e, Wp_step0 f0_1384 ⟨fun _ => z, fun y => absurd e2 y⟩⟩)
    Wp_step0 f0_1375 (Wp_step0 f0_1376 (Wp_step0 f0_1377 (Wp_step0 f0_1378 (Wp_step0 f0_1379 (Wp_step0 f0_1380 ⟨rfl, a1.1, a1.2, Wp_step0 f0_1381 ⟨⟨kf_407, Nat.le_of_ble_eq_true rfl⟩, Nat.le_refl _, _, rfl, Sp_E h3⟩⟩)))))
  have h1 : Sp X d 160 [mR 0, mI (X.1 (w32 (i + 1)).toNat)] s (fun r t => ∃ v : Int, r = some (mI v) ∧ Wp X (d + 1) 0 1375 [some (mX 0), some (mR 0), some (mR 407), some (mI i)] [mI v] t Q) := h.imp (fun r t ⟨v, e, z⟩ => ⟨v, e, g v t z⟩)
  Wp_step0 f0_1366 (Wp_step0 f0_1367 (Wp_step0 f0_1368 (Wp_step0 f0_1369 (Wp_step0 f0_1370 (Wp_step0 f0_1371 ⟨rfl, a1.1, a1.2, Wp_step0 f0_1372 ⟨⟨kf_0, Nat.le_of_ble_eq_true rfl⟩, Nat.le_refl _, _, rfl, Sp_E h1⟩⟩)))))
theorem w0_39 {X : (Nat → Int) × Nat} {d : Nat} {s : mSt} {Q : mQ} {i : Int} (a1 : 0 ≤ w32 (i + 1) ∧ w32 (i + 1) < X.2) (h : Sp X d 161 [mR 0, mI (X.1 (w32 (i + 1)).toNat)] s (fun r t => ∃ v : Int, r = some (mI v) ∧ Sp X d 307 [mR 407, mI (X.1 (w32 (i + 1)).toNat)] t (fun r u => ∃ v' : Int, r = some (mI v') ∧ v = v' ∧ Wp X (d + 1) 0 1435 [some (mX 0), some (mR 0), some (mR 407), some (mI i)] [] u Q))) : Wp X (d + 1) 0 1389 [some (mX 0), some (mR 0), some (mR 407), some (mI i)] [] s Q :=
  have g : ∀ (v : Int) (t : mSt), Sp X d 307 [mR 407, mI (X.1 (w32 (i + 1)).toNat)] t (fun r u => ∃ v' : Int, r = some (mI v') ∧ v = v' ∧ Wp X (d + 1) 0 1435 [some (mX 0), some (mR 0), some (mR 407), some (mI i)] [] u Q) → Wp X (d + 1) 0 1398 [some (mX 0), some (mR 0), some (mR 407), some (mI i)] [mI v] t Q := fun v t h2 =>
    have h3 : Sp X d 307 [mR 407, mI (X.1 (w32 (i + 1)).toNat)] t (fun r u => ∃ v' : Int, r = some (mI v') ∧ Wp X (d + 1) 0 1407 [some (mX 0), some (mR 0), some (mR 407), some (mI i)] [mI v', mI v] u Q) := h2.imp (fun r u ⟨v', e, e2, z⟩ => ⟨v', e, Wp_step0 f0_1407 ⟨fun _ => z, fun y => absurd e2 y⟩⟩)
    Wp_step0 f0_1398 (Wp_step0 f0_1399 (Wp_step0 f0_1400 (Wp_step0 f0_1401 (Wp_step0 f0_1402 (Wp_step0 f0_1403 ⟨rfl, a1.1, a1.2, Wp_step0 f0_1404 ⟨⟨kf_407, Nat.le_of_ble_eq_true rfl⟩, Nat.le_refl _, _, rfl, Sp_E h3⟩⟩)))))
  have h1 : Sp X d 161 [mR 0, mI (X.1 (w32 (i + 1)).toNat)] s (fun r t => ∃ v : Int, r = some (mI v) ∧ Wp X (d + 1) 0 1398 [some (mX 0), some (mR 0), some (mR 407), some (mI i)] [mI v] t Q) := h.imp (fun r t ⟨v, e, z⟩ => ⟨v, e, g v t z⟩)
  Wp_step0 f0_1389 (Wp_step0 f0_1390 (Wp_step0 f0_1391 (Wp_step0 f0_1392 (Wp_step0 f0_1393 (Wp_step0 f0_1394 ⟨rfl, a1.1, a1.2, Wp_step0 f0_1395 ⟨⟨kf_0, Nat.le_of_ble_eq_true rfl⟩, Nat.le_refl _, _, rfl, Sp_E h1⟩⟩)))))
theorem w0_40 {X : (Nat → Int) × Nat} {d : Nat} {s : mSt} {Q : mQ} {i : Int} (a1 : 0 ≤ w32 (i + 1) ∧ w32 (i + 1) < X.2) (h : Sp X d 162 [mR 0, mI (X.1 (w32 (i + 1)).toNat)] s (fun r t => ∃ v : Int, r = some (mI v) ∧ Sp X d 308 [mR 407, mI (X.1 (w32 (i + 1)).toNat)] t (fun r u => ∃ v' : Int, r = some (mI v') ∧ v = v' ∧ Wp X (d + 1) 0 1435 [some (mX 0), some (mR 0), some (mR 407), some (mI i)] [] u Q))) : Wp X (d + 1) 0 1412 [some (mX 0), some (mR 0), some (mR 407), some (mI i)] [] s Q :=
  have g : ∀ (v : Int) (t : mSt), Sp X d 308 [mR 407, mI (X.1 (w32 (i + 1)).toNat)] t (fun r u => ∃ v' : Int, r = some (mI v') ∧ v = v' ∧ Wp X (d + 1) 0 1435 [some (mX 0), some (mR 0), some (mR 407), some (mI i)] [] u Q) → Wp X (d + 1) 0 1421 [some (mX 0), some (mR 0), some (mR 407), some (mI i)] [mI v] t Q := fun v t h2 =>
    have h3 : Sp X d 308 [mR 407, mI (X.1 (w32 (i + 1)).toNat)] t (fun r u => ∃ v' : Int, r = some (mI v') ∧ Wp X (d + 1) 0 1430 [some (mX 0), some (mR 0), some (mR 407), some (mI i)] [mI v', mI v] u Q) := h2.imp (fun r u ⟨v', e, e2, z⟩ => ⟨v', e, Wp_step0 f0_1430 ⟨fun _ => z, fun y => absurd e2 y⟩⟩)
    Wp_step0 f0_1421 (Wp_step0 f0_1422 (Wp_step0 f0_1423 (Wp_step0 f0_1424 (Wp_step0 f0_1425 (Wp_step0 f0_1426 ⟨rfl, a1.1, a1.2, Wp_step0 f0_1427 ⟨⟨kf_407, Nat.le_of_ble_eq_true rfl⟩, Nat.le_refl _, _, rfl, Sp_E h3⟩⟩)))))
  have h1 : Sp X d 162 [mR 0, mI (X.1 (w32 (i + 1)).toNat)] s (fun r t => ∃ v : Int, r = some (mI v) ∧ Wp X (d + 1) 0 1421 [some (mX 0), some (mR 0), some (mR 407), some (mI i)] [mI v] t Q) := h.imp (fun r t ⟨v, e, z⟩ => ⟨v, e, g v t z⟩)
  Wp_step0 f0_1412 (Wp_step0 f0_1413 (Wp_step0 f0_1414 (Wp_step0 f0_1415 (Wp_step0 f0_1416 (Wp_step0 f0_1417 ⟨rfl, a1.1, a1.2, Wp_step0 f0_1418 ⟨⟨kf_0, Nat.le_of_ble_eq_true rfl⟩, Nat.le_refl _, _, rfl, Sp_E h1⟩⟩)))))
theorem w0_t {X : (Nat → Int) × Nat} {d : Nat} {s : mSt} {Q : mQ} {i : Int} (h : Wp X d 0 18 [some (mX 0), some (mR 0), some (mR 407), some (mI (w32 (i + 6)))] [] s Q) : Wp X d 0 1435 [some (mX 0), some (mR 0), some (mR 407), some (mI i)] [] s Q := Wp_step0 f0_1435 (Wp_step0 f0_1438 h)
theorem w0_h {X : (Nat → Int) × Nat} {d : Nat} {s : mSt} {Q : mQ} {i : Int} (h1 : w32 ((X.2 : Int) - 6) < i → Q (some (mI 1)) s) (a0 : ¬ w32 ((X.2 : Int) - 6) < i → 0 ≤ i ∧ i < X.2) (h2 : ¬ w32 ((X.2 : Int) - 6) < i → Wp X d 0 (tT 33 1402 0 40 #[179, 242, 265, 278, 291, 314, 347, 380, 403, 436, 449, 472, 495, 528, 561, 574, 607, 640, 663, 696, 729, 762, 805, 838, 881, 914, 937, 970, 1003, 1026, 1059, 1082, 1125, 1158, 1201, 1224, 1257, 1280, 1333, 1356, 1379] (iAnd (X.1 i.toNat) 63)) [some (mX 0), some (mR 0), some (mR 407), some (mI i)] [] s Q) : Wp X d 0 18 [some (mX 0), some (mR 0), some (mR 407), some (mI i)] [] s Q :=
  Wp_step0 f0_18 (Wp_step0 f0_19 (Wp_step0 f0_20 ⟨rfl, Wp_step0 f0_21 (Wp_step0 f0_23 (Wp_step0 f0_24 ⟨fun z => Wp_step0 f0_1441 (Wp_step0 f0_1442 ⟨⟨rfl, Or.inr rfl⟩, h1 z⟩), fun z => Wp_step0 f0_27 (Wp_step0 f0_28 (Wp_step0 f0_29 ⟨rfl, (a0 z).1, (a0 z).2, Wp_step0 f0_30 (Wp_step0 f0_32 (Wp_step0 f0_33 (h2 z)))⟩))⟩))⟩))
def lwT (x : Int) : Nat := tT 33 1402 0 40 #[179, 242, 265, 278, 291, 314, 347, 380, 403, 436, 449, 472, 495, 528, 561, 574, 607, 640, 663, 696, 729, 762, 805, 838, 881, 914, 937, 970, 1003, 1026, 1059, 1082, 1125, 1158, 1201, 1224, 1257, 1280, 1333, 1356, 1379] x
def lwP : List Nat := [212, 275, 298, 311, 324, 347, 380, 413, 436, 469, 482, 505, 528, 561, 594, 607, 640, 673, 696, 729, 762, 795, 838, 871, 914, 947, 970, 1003, 1036, 1059, 1092, 1115, 1158, 1191, 1234, 1257, 1290, 1313, 1366, 1389, 1412]
theorem w0_s (x : Int) : lwT x = if 0 ≤ x ∧ x < 41 then lwP.getD x.toNat 1435 else 1435 := by
  by_cases h : 0 ≤ x ∧ x < 41
  · have q := (show ∀ k : Fin 41, lwT (k.val : Int) = lwP.getD k.val 1435 by decide +kernel) ⟨x.toNat, by omega⟩
    dsimp only at q
    rw [show ((x.toNat : Nat) : Int) = x by omega] at q
    rw [if_pos h]; exact q
  · rw [if_neg h]; unfold lwT tT; rw [if_pos (by omega)]; decide +kernel
