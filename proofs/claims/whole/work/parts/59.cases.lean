/-! the law's own rows -/
theorem dl_0 : dc code 0 3 (.new 7) 3 := ⟨by decide +kernel, rfl⟩
theorem dl_3 : dc code 3 4 .dup 1 := ⟨by decide +kernel, rfl⟩
theorem dl_4 : dc code 4 7 (.invokespecial 9) 3 := ⟨by decide +kernel, rfl⟩
theorem dl_7 : dc code 7 8 (.astore_n 1) 1 := ⟨by decide +kernel, rfl⟩
theorem dl_8 : dc code 8 11 (.new 10) 3 := ⟨by decide +kernel, rfl⟩
theorem dl_11 : dc code 11 12 .dup 1 := ⟨by decide +kernel, rfl⟩
theorem dl_12 : dc code 12 15 (.invokespecial 12) 3 := ⟨by decide +kernel, rfl⟩
theorem dl_15 : dc code 15 16 (.astore_n 2) 1 := ⟨by decide +kernel, rfl⟩
theorem dl_16 : dc code 16 17 (.iconst 0) 1 := ⟨by decide +kernel, rfl⟩
theorem dl_17 : dc code 17 18 (.istore_n 3) 1 := ⟨by decide +kernel, rfl⟩
theorem dl_18 : dc code 18 19 (.iload_n 3) 1 := ⟨by decide +kernel, rfl⟩
theorem dl_19 : dc code 19 20 (.aload_n 0) 1 := ⟨by decide +kernel, rfl⟩
theorem dl_20 : dc code 20 21 .arraylength 1 := ⟨by decide +kernel, rfl⟩
theorem dl_21 : dc code 21 23 (.bipush 6) 2 := ⟨by decide +kernel, rfl⟩
theorem dl_23 : dc code 23 24 .isub 1 := ⟨by decide +kernel, rfl⟩
theorem dl_24 : db code 24 27 1602 (.if_icmp .gt (1578)) 3 (1578) := ⟨by decide +kernel, rfl, rfl⟩
theorem dl_27 : dc code 27 28 (.aload_n 0) 1 := ⟨by decide +kernel, rfl⟩
theorem dl_28 : dc code 28 29 (.iload_n 3) 1 := ⟨by decide +kernel, rfl⟩
theorem dl_29 : dc code 29 30 .iaload 1 := ⟨by decide +kernel, rfl⟩
theorem dl_30 : dc code 30 32 (.bipush 63) 2 := ⟨by decide +kernel, rfl⟩
theorem dl_32 : dc code 32 33 .iand 1 := ⟨by decide +kernel, rfl⟩
theorem dl_33 : decode code 33 = .ok (.tableswitch 1563 0 43 #[191, 234, 267, 310, 343, 376, 419, 462, 495, 538, 571, 594, 617, 640, 663, 686, 709, 742, 785, 808, 851, 884, 917, 960, 973, 996, 1039, 1062, 1075, 1108, 1131, 1174, 1217, 1240, 1263, 1326, 1369, 1402, 1435, 1468, 1491, 1514, 1527, 1540], 191) := by decide +kernel
theorem dl_224 : dc code 224 225 (.aload_n 1) 1 := ⟨by decide +kernel, rfl⟩
theorem dl_225 : dc code 225 226 (.aload_n 0) 1 := ⟨by decide +kernel, rfl⟩
theorem dl_226 : dc code 226 227 (.iload_n 3) 1 := ⟨by decide +kernel, rfl⟩
theorem dl_227 : dc code 227 228 (.iconst 1) 1 := ⟨by decide +kernel, rfl⟩
theorem dl_228 : dc code 228 229 .iadd 1 := ⟨by decide +kernel, rfl⟩
theorem dl_229 : dc code 229 230 .iaload 1 := ⟨by decide +kernel, rfl⟩
theorem dl_230 : dc code 230 231 (.aload_n 0) 1 := ⟨by decide +kernel, rfl⟩
theorem dl_231 : dc code 231 232 (.iload_n 3) 1 := ⟨by decide +kernel, rfl⟩
theorem dl_232 : dc code 232 233 (.iconst 2) 1 := ⟨by decide +kernel, rfl⟩
theorem dl_233 : dc code 233 234 .iadd 1 := ⟨by decide +kernel, rfl⟩
theorem dl_234 : dc code 234 235 .iaload 1 := ⟨by decide +kernel, rfl⟩
theorem dl_235 : dc code 235 236 (.aload_n 0) 1 := ⟨by decide +kernel, rfl⟩
theorem dl_236 : dc code 236 237 (.iload_n 3) 1 := ⟨by decide +kernel, rfl⟩
theorem dl_237 : dc code 237 238 (.iconst 3) 1 := ⟨by decide +kernel, rfl⟩
theorem dl_238 : dc code 238 239 .iadd 1 := ⟨by decide +kernel, rfl⟩
theorem dl_239 : dc code 239 240 .iaload 1 := ⟨by decide +kernel, rfl⟩
theorem dl_240 : dc code 240 243 (.invokevirtual 13) 3 := ⟨by decide +kernel, rfl⟩
theorem dl_243 : dc code 243 244 (.aload_n 2) 1 := ⟨by decide +kernel, rfl⟩
theorem dl_244 : dc code 244 245 (.aload_n 0) 1 := ⟨by decide +kernel, rfl⟩
theorem dl_245 : dc code 245 246 (.iload_n 3) 1 := ⟨by decide +kernel, rfl⟩
theorem dl_246 : dc code 246 247 (.iconst 1) 1 := ⟨by decide +kernel, rfl⟩
theorem dl_247 : dc code 247 248 .iadd 1 := ⟨by decide +kernel, rfl⟩
theorem dl_248 : dc code 248 249 .iaload 1 := ⟨by decide +kernel, rfl⟩
theorem dl_249 : dc code 249 250 (.aload_n 0) 1 := ⟨by decide +kernel, rfl⟩
theorem dl_250 : dc code 250 251 (.iload_n 3) 1 := ⟨by decide +kernel, rfl⟩
theorem dl_251 : dc code 251 252 (.iconst 2) 1 := ⟨by decide +kernel, rfl⟩
theorem dl_252 : dc code 252 253 .iadd 1 := ⟨by decide +kernel, rfl⟩
theorem dl_253 : dc code 253 254 .iaload 1 := ⟨by decide +kernel, rfl⟩
theorem dl_254 : dc code 254 255 (.aload_n 0) 1 := ⟨by decide +kernel, rfl⟩
theorem dl_255 : dc code 255 256 (.iload_n 3) 1 := ⟨by decide +kernel, rfl⟩
theorem dl_256 : dc code 256 257 (.iconst 3) 1 := ⟨by decide +kernel, rfl⟩
theorem dl_257 : dc code 257 258 .iadd 1 := ⟨by decide +kernel, rfl⟩
theorem dl_258 : dc code 258 259 .iaload 1 := ⟨by decide +kernel, rfl⟩
theorem dl_259 : dc code 259 262 (.invokevirtual 17) 3 := ⟨by decide +kernel, rfl⟩
theorem dl_262 : db code 262 265 1596 (.if_icmp .eq (1334)) 3 (1334) := ⟨by decide +kernel, rfl, rfl⟩
theorem dl_265 : dc code 265 266 (.iconst 0) 1 := ⟨by decide +kernel, rfl⟩
theorem dl_266 : dc code 266 267 .ireturn 1 := ⟨by decide +kernel, rfl⟩
theorem dl_267 : dc code 267 268 (.aload_n 1) 1 := ⟨by decide +kernel, rfl⟩
theorem dl_268 : dc code 268 269 (.aload_n 0) 1 := ⟨by decide +kernel, rfl⟩
theorem dl_269 : dc code 269 270 (.iload_n 3) 1 := ⟨by decide +kernel, rfl⟩
theorem dl_270 : dc code 270 271 (.iconst 1) 1 := ⟨by decide +kernel, rfl⟩
theorem dl_271 : dc code 271 272 .iadd 1 := ⟨by decide +kernel, rfl⟩
theorem dl_272 : dc code 272 273 .iaload 1 := ⟨by decide +kernel, rfl⟩
theorem dl_273 : dc code 273 274 (.aload_n 0) 1 := ⟨by decide +kernel, rfl⟩
theorem dl_274 : dc code 274 275 (.iload_n 3) 1 := ⟨by decide +kernel, rfl⟩
theorem dl_275 : dc code 275 276 (.iconst 2) 1 := ⟨by decide +kernel, rfl⟩
theorem dl_276 : dc code 276 277 .iadd 1 := ⟨by decide +kernel, rfl⟩
theorem dl_277 : dc code 277 278 .iaload 1 := ⟨by decide +kernel, rfl⟩
theorem dl_278 : dc code 278 281 (.invokevirtual 18) 3 := ⟨by decide +kernel, rfl⟩
theorem dl_281 : dc code 281 282 (.aload_n 2) 1 := ⟨by decide +kernel, rfl⟩
theorem dl_282 : dc code 282 283 (.aload_n 0) 1 := ⟨by decide +kernel, rfl⟩
theorem dl_283 : dc code 283 284 (.iload_n 3) 1 := ⟨by decide +kernel, rfl⟩
theorem dl_284 : dc code 284 285 (.iconst 1) 1 := ⟨by decide +kernel, rfl⟩
theorem dl_285 : dc code 285 286 .iadd 1 := ⟨by decide +kernel, rfl⟩
theorem dl_286 : dc code 286 287 .iaload 1 := ⟨by decide +kernel, rfl⟩
theorem dl_287 : dc code 287 288 (.aload_n 0) 1 := ⟨by decide +kernel, rfl⟩
theorem dl_288 : dc code 288 289 (.iload_n 3) 1 := ⟨by decide +kernel, rfl⟩
theorem dl_289 : dc code 289 290 (.iconst 2) 1 := ⟨by decide +kernel, rfl⟩
theorem dl_290 : dc code 290 291 .iadd 1 := ⟨by decide +kernel, rfl⟩
theorem dl_291 : dc code 291 292 .iaload 1 := ⟨by decide +kernel, rfl⟩
theorem dl_292 : dc code 292 295 (.invokevirtual 22) 3 := ⟨by decide +kernel, rfl⟩
theorem dl_295 : db code 295 298 1596 (.if_icmp .eq (1301)) 3 (1301) := ⟨by decide +kernel, rfl, rfl⟩
theorem dl_298 : dc code 298 299 (.iconst 0) 1 := ⟨by decide +kernel, rfl⟩
theorem dl_299 : dc code 299 300 .ireturn 1 := ⟨by decide +kernel, rfl⟩
theorem dl_300 : dc code 300 301 (.aload_n 1) 1 := ⟨by decide +kernel, rfl⟩
theorem dl_301 : dc code 301 302 (.aload_n 0) 1 := ⟨by decide +kernel, rfl⟩
theorem dl_302 : dc code 302 303 (.iload_n 3) 1 := ⟨by decide +kernel, rfl⟩
theorem dl_303 : dc code 303 304 (.iconst 1) 1 := ⟨by decide +kernel, rfl⟩
theorem dl_304 : dc code 304 305 .iadd 1 := ⟨by decide +kernel, rfl⟩
theorem dl_305 : dc code 305 306 .iaload 1 := ⟨by decide +kernel, rfl⟩
theorem dl_306 : dc code 306 307 (.aload_n 0) 1 := ⟨by decide +kernel, rfl⟩
theorem dl_307 : dc code 307 308 (.iload_n 3) 1 := ⟨by decide +kernel, rfl⟩
theorem dl_308 : dc code 308 309 (.iconst 2) 1 := ⟨by decide +kernel, rfl⟩
theorem dl_309 : dc code 309 310 .iadd 1 := ⟨by decide +kernel, rfl⟩
theorem dl_310 : dc code 310 311 .iaload 1 := ⟨by decide +kernel, rfl⟩
theorem dl_311 : dc code 311 312 (.aload_n 0) 1 := ⟨by decide +kernel, rfl⟩
theorem dl_312 : dc code 312 313 (.iload_n 3) 1 := ⟨by decide +kernel, rfl⟩
theorem dl_313 : dc code 313 314 (.iconst 3) 1 := ⟨by decide +kernel, rfl⟩
theorem dl_314 : dc code 314 315 .iadd 1 := ⟨by decide +kernel, rfl⟩
theorem dl_315 : dc code 315 316 .iaload 1 := ⟨by decide +kernel, rfl⟩
theorem dl_316 : dc code 316 319 (.invokevirtual 23) 3 := ⟨by decide +kernel, rfl⟩
theorem dl_319 : dc code 319 320 (.aload_n 2) 1 := ⟨by decide +kernel, rfl⟩
theorem dl_320 : dc code 320 321 (.aload_n 0) 1 := ⟨by decide +kernel, rfl⟩
theorem dl_321 : dc code 321 322 (.iload_n 3) 1 := ⟨by decide +kernel, rfl⟩
theorem dl_322 : dc code 322 323 (.iconst 1) 1 := ⟨by decide +kernel, rfl⟩
theorem dl_323 : dc code 323 324 .iadd 1 := ⟨by decide +kernel, rfl⟩
theorem dl_324 : dc code 324 325 .iaload 1 := ⟨by decide +kernel, rfl⟩
theorem dl_325 : dc code 325 326 (.aload_n 0) 1 := ⟨by decide +kernel, rfl⟩
theorem dl_326 : dc code 326 327 (.iload_n 3) 1 := ⟨by decide +kernel, rfl⟩
theorem dl_327 : dc code 327 328 (.iconst 2) 1 := ⟨by decide +kernel, rfl⟩
theorem dl_328 : dc code 328 329 .iadd 1 := ⟨by decide +kernel, rfl⟩
theorem dl_329 : dc code 329 330 .iaload 1 := ⟨by decide +kernel, rfl⟩
theorem dl_330 : dc code 330 331 (.aload_n 0) 1 := ⟨by decide +kernel, rfl⟩
theorem dl_331 : dc code 331 332 (.iload_n 3) 1 := ⟨by decide +kernel, rfl⟩
theorem dl_332 : dc code 332 333 (.iconst 3) 1 := ⟨by decide +kernel, rfl⟩
theorem dl_333 : dc code 333 334 .iadd 1 := ⟨by decide +kernel, rfl⟩
theorem dl_334 : dc code 334 335 .iaload 1 := ⟨by decide +kernel, rfl⟩
theorem dl_335 : dc code 335 338 (.invokevirtual 26) 3 := ⟨by decide +kernel, rfl⟩
theorem dl_338 : db code 338 341 1596 (.if_icmp .eq (1258)) 3 (1258) := ⟨by decide +kernel, rfl, rfl⟩
theorem dl_341 : dc code 341 342 (.iconst 0) 1 := ⟨by decide +kernel, rfl⟩
theorem dl_342 : dc code 342 343 .ireturn 1 := ⟨by decide +kernel, rfl⟩
theorem dl_343 : dc code 343 344 (.aload_n 1) 1 := ⟨by decide +kernel, rfl⟩
theorem dl_344 : dc code 344 345 (.aload_n 0) 1 := ⟨by decide +kernel, rfl⟩
theorem dl_345 : dc code 345 346 (.iload_n 3) 1 := ⟨by decide +kernel, rfl⟩
theorem dl_346 : dc code 346 347 (.iconst 1) 1 := ⟨by decide +kernel, rfl⟩
theorem dl_347 : dc code 347 348 .iadd 1 := ⟨by decide +kernel, rfl⟩
theorem dl_348 : dc code 348 349 .iaload 1 := ⟨by decide +kernel, rfl⟩
theorem dl_349 : dc code 349 350 (.aload_n 0) 1 := ⟨by decide +kernel, rfl⟩
theorem dl_350 : dc code 350 351 (.iload_n 3) 1 := ⟨by decide +kernel, rfl⟩
theorem dl_351 : dc code 351 352 (.iconst 2) 1 := ⟨by decide +kernel, rfl⟩
theorem dl_352 : dc code 352 353 .iadd 1 := ⟨by decide +kernel, rfl⟩
theorem dl_353 : dc code 353 354 .iaload 1 := ⟨by decide +kernel, rfl⟩
theorem dl_354 : dc code 354 357 (.invokevirtual 27) 3 := ⟨by decide +kernel, rfl⟩
theorem dl_357 : dc code 357 358 (.aload_n 2) 1 := ⟨by decide +kernel, rfl⟩
theorem dl_358 : dc code 358 359 (.aload_n 0) 1 := ⟨by decide +kernel, rfl⟩
theorem dl_359 : dc code 359 360 (.iload_n 3) 1 := ⟨by decide +kernel, rfl⟩
theorem dl_360 : dc code 360 361 (.iconst 1) 1 := ⟨by decide +kernel, rfl⟩
theorem dl_361 : dc code 361 362 .iadd 1 := ⟨by decide +kernel, rfl⟩
theorem dl_362 : dc code 362 363 .iaload 1 := ⟨by decide +kernel, rfl⟩
theorem dl_363 : dc code 363 364 (.aload_n 0) 1 := ⟨by decide +kernel, rfl⟩
theorem dl_364 : dc code 364 365 (.iload_n 3) 1 := ⟨by decide +kernel, rfl⟩
theorem dl_365 : dc code 365 366 (.iconst 2) 1 := ⟨by decide +kernel, rfl⟩
theorem dl_366 : dc code 366 367 .iadd 1 := ⟨by decide +kernel, rfl⟩
theorem dl_367 : dc code 367 368 .iaload 1 := ⟨by decide +kernel, rfl⟩
theorem dl_368 : dc code 368 371 (.invokevirtual 30) 3 := ⟨by decide +kernel, rfl⟩
theorem dl_371 : db code 371 374 1596 (.if_icmp .eq (1225)) 3 (1225) := ⟨by decide +kernel, rfl, rfl⟩
theorem dl_374 : dc code 374 375 (.iconst 0) 1 := ⟨by decide +kernel, rfl⟩
theorem dl_375 : dc code 375 376 .ireturn 1 := ⟨by decide +kernel, rfl⟩
theorem dl_376 : dc code 376 377 (.aload_n 1) 1 := ⟨by decide +kernel, rfl⟩
theorem dl_377 : dc code 377 378 (.aload_n 0) 1 := ⟨by decide +kernel, rfl⟩
theorem dl_378 : dc code 378 379 (.iload_n 3) 1 := ⟨by decide +kernel, rfl⟩
theorem dl_379 : dc code 379 380 (.iconst 1) 1 := ⟨by decide +kernel, rfl⟩
theorem dl_380 : dc code 380 381 .iadd 1 := ⟨by decide +kernel, rfl⟩
theorem dl_381 : dc code 381 382 .iaload 1 := ⟨by decide +kernel, rfl⟩
theorem dl_382 : dc code 382 383 (.aload_n 0) 1 := ⟨by decide +kernel, rfl⟩
theorem dl_383 : dc code 383 384 (.iload_n 3) 1 := ⟨by decide +kernel, rfl⟩
theorem dl_384 : dc code 384 385 (.iconst 2) 1 := ⟨by decide +kernel, rfl⟩
theorem dl_385 : dc code 385 386 .iadd 1 := ⟨by decide +kernel, rfl⟩
theorem dl_386 : dc code 386 387 .iaload 1 := ⟨by decide +kernel, rfl⟩
theorem dl_387 : dc code 387 390 (.invokevirtual 31) 3 := ⟨by decide +kernel, rfl⟩
theorem dl_390 : dc code 390 391 (.aload_n 2) 1 := ⟨by decide +kernel, rfl⟩
theorem dl_391 : dc code 391 392 (.aload_n 0) 1 := ⟨by decide +kernel, rfl⟩
theorem dl_392 : dc code 392 393 (.iload_n 3) 1 := ⟨by decide +kernel, rfl⟩
theorem dl_393 : dc code 393 394 (.iconst 1) 1 := ⟨by decide +kernel, rfl⟩
theorem dl_394 : dc code 394 395 .iadd 1 := ⟨by decide +kernel, rfl⟩
theorem dl_395 : dc code 395 396 .iaload 1 := ⟨by decide +kernel, rfl⟩
theorem dl_396 : dc code 396 397 (.aload_n 0) 1 := ⟨by decide +kernel, rfl⟩
theorem dl_397 : dc code 397 398 (.iload_n 3) 1 := ⟨by decide +kernel, rfl⟩
theorem dl_398 : dc code 398 399 (.iconst 2) 1 := ⟨by decide +kernel, rfl⟩
theorem dl_399 : dc code 399 400 .iadd 1 := ⟨by decide +kernel, rfl⟩
theorem dl_400 : dc code 400 401 .iaload 1 := ⟨by decide +kernel, rfl⟩
theorem dl_401 : dc code 401 404 (.invokevirtual 34) 3 := ⟨by decide +kernel, rfl⟩
theorem dl_404 : db code 404 407 1596 (.if_icmp .eq (1192)) 3 (1192) := ⟨by decide +kernel, rfl, rfl⟩
theorem dl_407 : dc code 407 408 (.iconst 0) 1 := ⟨by decide +kernel, rfl⟩
theorem dl_408 : dc code 408 409 .ireturn 1 := ⟨by decide +kernel, rfl⟩
theorem dl_409 : dc code 409 410 (.aload_n 1) 1 := ⟨by decide +kernel, rfl⟩
theorem dl_410 : dc code 410 411 (.aload_n 0) 1 := ⟨by decide +kernel, rfl⟩
theorem dl_411 : dc code 411 412 (.iload_n 3) 1 := ⟨by decide +kernel, rfl⟩
theorem dl_412 : dc code 412 413 (.iconst 1) 1 := ⟨by decide +kernel, rfl⟩
theorem dl_413 : dc code 413 414 .iadd 1 := ⟨by decide +kernel, rfl⟩
theorem dl_414 : dc code 414 415 .iaload 1 := ⟨by decide +kernel, rfl⟩
theorem dl_415 : dc code 415 416 (.aload_n 0) 1 := ⟨by decide +kernel, rfl⟩
theorem dl_416 : dc code 416 417 (.iload_n 3) 1 := ⟨by decide +kernel, rfl⟩
theorem dl_417 : dc code 417 418 (.iconst 2) 1 := ⟨by decide +kernel, rfl⟩
theorem dl_418 : dc code 418 419 .iadd 1 := ⟨by decide +kernel, rfl⟩
theorem dl_419 : dc code 419 420 .iaload 1 := ⟨by decide +kernel, rfl⟩
theorem dl_420 : dc code 420 421 (.aload_n 0) 1 := ⟨by decide +kernel, rfl⟩
theorem dl_421 : dc code 421 422 (.iload_n 3) 1 := ⟨by decide +kernel, rfl⟩
theorem dl_422 : dc code 422 423 (.iconst 3) 1 := ⟨by decide +kernel, rfl⟩
theorem dl_423 : dc code 423 424 .iadd 1 := ⟨by decide +kernel, rfl⟩
theorem dl_424 : dc code 424 425 .iaload 1 := ⟨by decide +kernel, rfl⟩
theorem dl_425 : dc code 425 428 (.invokevirtual 35) 3 := ⟨by decide +kernel, rfl⟩
theorem dl_428 : dc code 428 429 (.aload_n 2) 1 := ⟨by decide +kernel, rfl⟩
theorem dl_429 : dc code 429 430 (.aload_n 0) 1 := ⟨by decide +kernel, rfl⟩
theorem dl_430 : dc code 430 431 (.iload_n 3) 1 := ⟨by decide +kernel, rfl⟩
theorem dl_431 : dc code 431 432 (.iconst 1) 1 := ⟨by decide +kernel, rfl⟩
theorem dl_432 : dc code 432 433 .iadd 1 := ⟨by decide +kernel, rfl⟩
theorem dl_433 : dc code 433 434 .iaload 1 := ⟨by decide +kernel, rfl⟩
theorem dl_434 : dc code 434 435 (.aload_n 0) 1 := ⟨by decide +kernel, rfl⟩
theorem dl_435 : dc code 435 436 (.iload_n 3) 1 := ⟨by decide +kernel, rfl⟩
theorem dl_436 : dc code 436 437 (.iconst 2) 1 := ⟨by decide +kernel, rfl⟩
theorem dl_437 : dc code 437 438 .iadd 1 := ⟨by decide +kernel, rfl⟩
theorem dl_438 : dc code 438 439 .iaload 1 := ⟨by decide +kernel, rfl⟩
theorem dl_439 : dc code 439 440 (.aload_n 0) 1 := ⟨by decide +kernel, rfl⟩
theorem dl_440 : dc code 440 441 (.iload_n 3) 1 := ⟨by decide +kernel, rfl⟩
theorem dl_441 : dc code 441 442 (.iconst 3) 1 := ⟨by decide +kernel, rfl⟩
theorem dl_442 : dc code 442 443 .iadd 1 := ⟨by decide +kernel, rfl⟩
theorem dl_443 : dc code 443 444 .iaload 1 := ⟨by decide +kernel, rfl⟩
theorem dl_444 : dc code 444 447 (.invokevirtual 38) 3 := ⟨by decide +kernel, rfl⟩
theorem dl_447 : db code 447 450 1596 (.if_icmp .eq (1149)) 3 (1149) := ⟨by decide +kernel, rfl, rfl⟩
theorem dl_450 : dc code 450 451 (.iconst 0) 1 := ⟨by decide +kernel, rfl⟩
theorem dl_451 : dc code 451 452 .ireturn 1 := ⟨by decide +kernel, rfl⟩
theorem dl_452 : dc code 452 453 (.aload_n 1) 1 := ⟨by decide +kernel, rfl⟩
theorem dl_453 : dc code 453 454 (.aload_n 0) 1 := ⟨by decide +kernel, rfl⟩
theorem dl_454 : dc code 454 455 (.iload_n 3) 1 := ⟨by decide +kernel, rfl⟩
theorem dl_455 : dc code 455 456 (.iconst 1) 1 := ⟨by decide +kernel, rfl⟩
theorem dl_456 : dc code 456 457 .iadd 1 := ⟨by decide +kernel, rfl⟩
theorem dl_457 : dc code 457 458 .iaload 1 := ⟨by decide +kernel, rfl⟩
theorem dl_458 : dc code 458 459 (.aload_n 0) 1 := ⟨by decide +kernel, rfl⟩
theorem dl_459 : dc code 459 460 (.iload_n 3) 1 := ⟨by decide +kernel, rfl⟩
theorem dl_460 : dc code 460 461 (.iconst 2) 1 := ⟨by decide +kernel, rfl⟩
theorem dl_461 : dc code 461 462 .iadd 1 := ⟨by decide +kernel, rfl⟩
theorem dl_462 : dc code 462 463 .iaload 1 := ⟨by decide +kernel, rfl⟩
theorem dl_463 : dc code 463 464 (.aload_n 0) 1 := ⟨by decide +kernel, rfl⟩
theorem dl_464 : dc code 464 465 (.iload_n 3) 1 := ⟨by decide +kernel, rfl⟩
theorem dl_465 : dc code 465 466 (.iconst 3) 1 := ⟨by decide +kernel, rfl⟩
theorem dl_466 : dc code 466 467 .iadd 1 := ⟨by decide +kernel, rfl⟩
theorem dl_467 : dc code 467 468 .iaload 1 := ⟨by decide +kernel, rfl⟩
theorem dl_468 : dc code 468 471 (.invokevirtual 39) 3 := ⟨by decide +kernel, rfl⟩
theorem dl_471 : dc code 471 472 (.aload_n 2) 1 := ⟨by decide +kernel, rfl⟩
theorem dl_472 : dc code 472 473 (.aload_n 0) 1 := ⟨by decide +kernel, rfl⟩
theorem dl_473 : dc code 473 474 (.iload_n 3) 1 := ⟨by decide +kernel, rfl⟩
theorem dl_474 : dc code 474 475 (.iconst 1) 1 := ⟨by decide +kernel, rfl⟩
theorem dl_475 : dc code 475 476 .iadd 1 := ⟨by decide +kernel, rfl⟩
theorem dl_476 : dc code 476 477 .iaload 1 := ⟨by decide +kernel, rfl⟩
theorem dl_477 : dc code 477 478 (.aload_n 0) 1 := ⟨by decide +kernel, rfl⟩
theorem dl_478 : dc code 478 479 (.iload_n 3) 1 := ⟨by decide +kernel, rfl⟩
theorem dl_479 : dc code 479 480 (.iconst 2) 1 := ⟨by decide +kernel, rfl⟩
theorem dl_480 : dc code 480 481 .iadd 1 := ⟨by decide +kernel, rfl⟩
theorem dl_481 : dc code 481 482 .iaload 1 := ⟨by decide +kernel, rfl⟩
theorem dl_482 : dc code 482 483 (.aload_n 0) 1 := ⟨by decide +kernel, rfl⟩
theorem dl_483 : dc code 483 484 (.iload_n 3) 1 := ⟨by decide +kernel, rfl⟩
theorem dl_484 : dc code 484 485 (.iconst 3) 1 := ⟨by decide +kernel, rfl⟩
theorem dl_485 : dc code 485 486 .iadd 1 := ⟨by decide +kernel, rfl⟩
theorem dl_486 : dc code 486 487 .iaload 1 := ⟨by decide +kernel, rfl⟩
theorem dl_487 : dc code 487 490 (.invokevirtual 42) 3 := ⟨by decide +kernel, rfl⟩
theorem dl_490 : db code 490 493 1596 (.if_icmp .eq (1106)) 3 (1106) := ⟨by decide +kernel, rfl, rfl⟩
theorem dl_493 : dc code 493 494 (.iconst 0) 1 := ⟨by decide +kernel, rfl⟩
theorem dl_494 : dc code 494 495 .ireturn 1 := ⟨by decide +kernel, rfl⟩
theorem dl_495 : dc code 495 496 (.aload_n 1) 1 := ⟨by decide +kernel, rfl⟩
theorem dl_496 : dc code 496 497 (.aload_n 0) 1 := ⟨by decide +kernel, rfl⟩
theorem dl_497 : dc code 497 498 (.iload_n 3) 1 := ⟨by decide +kernel, rfl⟩
theorem dl_498 : dc code 498 499 (.iconst 1) 1 := ⟨by decide +kernel, rfl⟩
theorem dl_499 : dc code 499 500 .iadd 1 := ⟨by decide +kernel, rfl⟩
theorem dl_500 : dc code 500 501 .iaload 1 := ⟨by decide +kernel, rfl⟩
theorem dl_501 : dc code 501 502 (.aload_n 0) 1 := ⟨by decide +kernel, rfl⟩
theorem dl_502 : dc code 502 503 (.iload_n 3) 1 := ⟨by decide +kernel, rfl⟩
theorem dl_503 : dc code 503 504 (.iconst 2) 1 := ⟨by decide +kernel, rfl⟩
theorem dl_504 : dc code 504 505 .iadd 1 := ⟨by decide +kernel, rfl⟩
theorem dl_505 : dc code 505 506 .iaload 1 := ⟨by decide +kernel, rfl⟩
theorem dl_506 : dc code 506 509 (.invokevirtual 43) 3 := ⟨by decide +kernel, rfl⟩
theorem dl_509 : dc code 509 510 (.aload_n 2) 1 := ⟨by decide +kernel, rfl⟩
theorem dl_510 : dc code 510 511 (.aload_n 0) 1 := ⟨by decide +kernel, rfl⟩
theorem dl_511 : dc code 511 512 (.iload_n 3) 1 := ⟨by decide +kernel, rfl⟩
theorem dl_512 : dc code 512 513 (.iconst 1) 1 := ⟨by decide +kernel, rfl⟩
theorem dl_513 : dc code 513 514 .iadd 1 := ⟨by decide +kernel, rfl⟩
theorem dl_514 : dc code 514 515 .iaload 1 := ⟨by decide +kernel, rfl⟩
theorem dl_515 : dc code 515 516 (.aload_n 0) 1 := ⟨by decide +kernel, rfl⟩
theorem dl_516 : dc code 516 517 (.iload_n 3) 1 := ⟨by decide +kernel, rfl⟩
theorem dl_517 : dc code 517 518 (.iconst 2) 1 := ⟨by decide +kernel, rfl⟩
theorem dl_518 : dc code 518 519 .iadd 1 := ⟨by decide +kernel, rfl⟩
theorem dl_519 : dc code 519 520 .iaload 1 := ⟨by decide +kernel, rfl⟩
theorem dl_520 : dc code 520 523 (.invokevirtual 46) 3 := ⟨by decide +kernel, rfl⟩
theorem dl_523 : db code 523 526 1596 (.if_icmp .eq (1073)) 3 (1073) := ⟨by decide +kernel, rfl, rfl⟩
theorem dl_526 : dc code 526 527 (.iconst 0) 1 := ⟨by decide +kernel, rfl⟩
theorem dl_527 : dc code 527 528 .ireturn 1 := ⟨by decide +kernel, rfl⟩
theorem dl_528 : dc code 528 529 (.aload_n 1) 1 := ⟨by decide +kernel, rfl⟩
theorem dl_529 : dc code 529 530 (.aload_n 0) 1 := ⟨by decide +kernel, rfl⟩
theorem dl_530 : dc code 530 531 (.iload_n 3) 1 := ⟨by decide +kernel, rfl⟩
theorem dl_531 : dc code 531 532 (.iconst 1) 1 := ⟨by decide +kernel, rfl⟩
theorem dl_532 : dc code 532 533 .iadd 1 := ⟨by decide +kernel, rfl⟩
theorem dl_533 : dc code 533 534 .iaload 1 := ⟨by decide +kernel, rfl⟩
theorem dl_534 : dc code 534 535 (.aload_n 0) 1 := ⟨by decide +kernel, rfl⟩
theorem dl_535 : dc code 535 536 (.iload_n 3) 1 := ⟨by decide +kernel, rfl⟩
theorem dl_536 : dc code 536 537 (.iconst 2) 1 := ⟨by decide +kernel, rfl⟩
theorem dl_537 : dc code 537 538 .iadd 1 := ⟨by decide +kernel, rfl⟩
theorem dl_538 : dc code 538 539 .iaload 1 := ⟨by decide +kernel, rfl⟩
theorem dl_539 : dc code 539 540 (.aload_n 0) 1 := ⟨by decide +kernel, rfl⟩
theorem dl_540 : dc code 540 541 (.iload_n 3) 1 := ⟨by decide +kernel, rfl⟩
theorem dl_541 : dc code 541 542 (.iconst 3) 1 := ⟨by decide +kernel, rfl⟩
theorem dl_542 : dc code 542 543 .iadd 1 := ⟨by decide +kernel, rfl⟩
theorem dl_543 : dc code 543 544 .iaload 1 := ⟨by decide +kernel, rfl⟩
theorem dl_544 : dc code 544 547 (.invokevirtual 47) 3 := ⟨by decide +kernel, rfl⟩
theorem dl_547 : dc code 547 548 (.aload_n 2) 1 := ⟨by decide +kernel, rfl⟩
theorem dl_548 : dc code 548 549 (.aload_n 0) 1 := ⟨by decide +kernel, rfl⟩
theorem dl_549 : dc code 549 550 (.iload_n 3) 1 := ⟨by decide +kernel, rfl⟩
theorem dl_550 : dc code 550 551 (.iconst 1) 1 := ⟨by decide +kernel, rfl⟩
theorem dl_551 : dc code 551 552 .iadd 1 := ⟨by decide +kernel, rfl⟩
theorem dl_552 : dc code 552 553 .iaload 1 := ⟨by decide +kernel, rfl⟩
theorem dl_553 : dc code 553 554 (.aload_n 0) 1 := ⟨by decide +kernel, rfl⟩
theorem dl_554 : dc code 554 555 (.iload_n 3) 1 := ⟨by decide +kernel, rfl⟩
theorem dl_555 : dc code 555 556 (.iconst 2) 1 := ⟨by decide +kernel, rfl⟩
theorem dl_556 : dc code 556 557 .iadd 1 := ⟨by decide +kernel, rfl⟩
theorem dl_557 : dc code 557 558 .iaload 1 := ⟨by decide +kernel, rfl⟩
theorem dl_558 : dc code 558 559 (.aload_n 0) 1 := ⟨by decide +kernel, rfl⟩
theorem dl_559 : dc code 559 560 (.iload_n 3) 1 := ⟨by decide +kernel, rfl⟩
theorem dl_560 : dc code 560 561 (.iconst 3) 1 := ⟨by decide +kernel, rfl⟩
theorem dl_561 : dc code 561 562 .iadd 1 := ⟨by decide +kernel, rfl⟩
theorem dl_562 : dc code 562 563 .iaload 1 := ⟨by decide +kernel, rfl⟩
theorem dl_563 : dc code 563 566 (.invokevirtual 50) 3 := ⟨by decide +kernel, rfl⟩
theorem dl_566 : db code 566 569 1596 (.if_icmp .eq (1030)) 3 (1030) := ⟨by decide +kernel, rfl, rfl⟩
theorem dl_569 : dc code 569 570 (.iconst 0) 1 := ⟨by decide +kernel, rfl⟩
theorem dl_570 : dc code 570 571 .ireturn 1 := ⟨by decide +kernel, rfl⟩
theorem dl_571 : dc code 571 572 (.aload_n 1) 1 := ⟨by decide +kernel, rfl⟩
theorem dl_572 : dc code 572 573 (.aload_n 0) 1 := ⟨by decide +kernel, rfl⟩
theorem dl_573 : dc code 573 574 (.iload_n 3) 1 := ⟨by decide +kernel, rfl⟩
theorem dl_574 : dc code 574 575 (.iconst 1) 1 := ⟨by decide +kernel, rfl⟩
theorem dl_575 : dc code 575 576 .iadd 1 := ⟨by decide +kernel, rfl⟩
theorem dl_576 : dc code 576 577 .iaload 1 := ⟨by decide +kernel, rfl⟩
theorem dl_577 : dc code 577 578 (.aload_n 0) 1 := ⟨by decide +kernel, rfl⟩
theorem dl_578 : dc code 578 579 (.iload_n 3) 1 := ⟨by decide +kernel, rfl⟩
theorem dl_579 : dc code 579 580 (.iconst 2) 1 := ⟨by decide +kernel, rfl⟩
theorem dl_580 : dc code 580 581 .iadd 1 := ⟨by decide +kernel, rfl⟩
theorem dl_581 : dc code 581 582 .iaload 1 := ⟨by decide +kernel, rfl⟩
theorem dl_582 : dc code 582 585 (.invokevirtual 51) 3 := ⟨by decide +kernel, rfl⟩
theorem dl_585 : dc code 585 586 (.aload_n 2) 1 := ⟨by decide +kernel, rfl⟩
theorem dl_586 : dc code 586 587 (.aload_n 0) 1 := ⟨by decide +kernel, rfl⟩
theorem dl_587 : dc code 587 588 (.iload_n 3) 1 := ⟨by decide +kernel, rfl⟩
theorem dl_588 : dc code 588 589 (.iconst 1) 1 := ⟨by decide +kernel, rfl⟩
theorem dl_589 : dc code 589 590 .iadd 1 := ⟨by decide +kernel, rfl⟩
theorem dl_590 : dc code 590 591 .iaload 1 := ⟨by decide +kernel, rfl⟩
theorem dl_591 : dc code 591 592 (.aload_n 0) 1 := ⟨by decide +kernel, rfl⟩
theorem dl_592 : dc code 592 593 (.iload_n 3) 1 := ⟨by decide +kernel, rfl⟩
theorem dl_593 : dc code 593 594 (.iconst 2) 1 := ⟨by decide +kernel, rfl⟩
theorem dl_594 : dc code 594 595 .iadd 1 := ⟨by decide +kernel, rfl⟩
theorem dl_595 : dc code 595 596 .iaload 1 := ⟨by decide +kernel, rfl⟩
theorem dl_596 : dc code 596 599 (.invokevirtual 54) 3 := ⟨by decide +kernel, rfl⟩
theorem dl_599 : db code 599 602 1596 (.if_icmp .eq (997)) 3 (997) := ⟨by decide +kernel, rfl, rfl⟩
theorem dl_602 : dc code 602 603 (.iconst 0) 1 := ⟨by decide +kernel, rfl⟩
theorem dl_603 : dc code 603 604 .ireturn 1 := ⟨by decide +kernel, rfl⟩
theorem dl_604 : dc code 604 605 (.aload_n 1) 1 := ⟨by decide +kernel, rfl⟩
theorem dl_605 : dc code 605 606 (.aload_n 0) 1 := ⟨by decide +kernel, rfl⟩
theorem dl_606 : dc code 606 607 (.iload_n 3) 1 := ⟨by decide +kernel, rfl⟩
theorem dl_607 : dc code 607 608 (.iconst 1) 1 := ⟨by decide +kernel, rfl⟩
theorem dl_608 : dc code 608 609 .iadd 1 := ⟨by decide +kernel, rfl⟩
theorem dl_609 : dc code 609 610 .iaload 1 := ⟨by decide +kernel, rfl⟩
theorem dl_610 : dc code 610 613 (.invokevirtual 55) 3 := ⟨by decide +kernel, rfl⟩
theorem dl_613 : dc code 613 614 (.aload_n 2) 1 := ⟨by decide +kernel, rfl⟩
theorem dl_614 : dc code 614 615 (.aload_n 0) 1 := ⟨by decide +kernel, rfl⟩
theorem dl_615 : dc code 615 616 (.iload_n 3) 1 := ⟨by decide +kernel, rfl⟩
theorem dl_616 : dc code 616 617 (.iconst 1) 1 := ⟨by decide +kernel, rfl⟩
theorem dl_617 : dc code 617 618 .iadd 1 := ⟨by decide +kernel, rfl⟩
theorem dl_618 : dc code 618 619 .iaload 1 := ⟨by decide +kernel, rfl⟩
theorem dl_619 : dc code 619 622 (.invokevirtual 59) 3 := ⟨by decide +kernel, rfl⟩
theorem dl_622 : db code 622 625 1596 (.if_icmp .eq (974)) 3 (974) := ⟨by decide +kernel, rfl, rfl⟩
theorem dl_625 : dc code 625 626 (.iconst 0) 1 := ⟨by decide +kernel, rfl⟩
theorem dl_626 : dc code 626 627 .ireturn 1 := ⟨by decide +kernel, rfl⟩
theorem dl_627 : dc code 627 628 (.aload_n 1) 1 := ⟨by decide +kernel, rfl⟩
theorem dl_628 : dc code 628 629 (.aload_n 0) 1 := ⟨by decide +kernel, rfl⟩
theorem dl_629 : dc code 629 630 (.iload_n 3) 1 := ⟨by decide +kernel, rfl⟩
theorem dl_630 : dc code 630 631 (.iconst 1) 1 := ⟨by decide +kernel, rfl⟩
theorem dl_631 : dc code 631 632 .iadd 1 := ⟨by decide +kernel, rfl⟩
theorem dl_632 : dc code 632 633 .iaload 1 := ⟨by decide +kernel, rfl⟩
theorem dl_633 : dc code 633 636 (.invokevirtual 60) 3 := ⟨by decide +kernel, rfl⟩
theorem dl_636 : dc code 636 637 (.aload_n 2) 1 := ⟨by decide +kernel, rfl⟩
theorem dl_637 : dc code 637 638 (.aload_n 0) 1 := ⟨by decide +kernel, rfl⟩
theorem dl_638 : dc code 638 639 (.iload_n 3) 1 := ⟨by decide +kernel, rfl⟩
theorem dl_639 : dc code 639 640 (.iconst 1) 1 := ⟨by decide +kernel, rfl⟩
theorem dl_640 : dc code 640 641 .iadd 1 := ⟨by decide +kernel, rfl⟩
theorem dl_641 : dc code 641 642 .iaload 1 := ⟨by decide +kernel, rfl⟩
theorem dl_642 : dc code 642 645 (.invokevirtual 63) 3 := ⟨by decide +kernel, rfl⟩
theorem dl_645 : db code 645 648 1596 (.if_icmp .eq (951)) 3 (951) := ⟨by decide +kernel, rfl, rfl⟩
theorem dl_648 : dc code 648 649 (.iconst 0) 1 := ⟨by decide +kernel, rfl⟩
theorem dl_649 : dc code 649 650 .ireturn 1 := ⟨by decide +kernel, rfl⟩
theorem dl_650 : dc code 650 651 (.aload_n 1) 1 := ⟨by decide +kernel, rfl⟩
theorem dl_651 : dc code 651 652 (.aload_n 0) 1 := ⟨by decide +kernel, rfl⟩
theorem dl_652 : dc code 652 653 (.iload_n 3) 1 := ⟨by decide +kernel, rfl⟩
theorem dl_653 : dc code 653 654 (.iconst 1) 1 := ⟨by decide +kernel, rfl⟩
theorem dl_654 : dc code 654 655 .iadd 1 := ⟨by decide +kernel, rfl⟩
theorem dl_655 : dc code 655 656 .iaload 1 := ⟨by decide +kernel, rfl⟩
theorem dl_656 : dc code 656 659 (.invokevirtual 64) 3 := ⟨by decide +kernel, rfl⟩
theorem dl_659 : dc code 659 660 (.aload_n 2) 1 := ⟨by decide +kernel, rfl⟩
theorem dl_660 : dc code 660 661 (.aload_n 0) 1 := ⟨by decide +kernel, rfl⟩
theorem dl_661 : dc code 661 662 (.iload_n 3) 1 := ⟨by decide +kernel, rfl⟩
theorem dl_662 : dc code 662 663 (.iconst 1) 1 := ⟨by decide +kernel, rfl⟩
theorem dl_663 : dc code 663 664 .iadd 1 := ⟨by decide +kernel, rfl⟩
theorem dl_664 : dc code 664 665 .iaload 1 := ⟨by decide +kernel, rfl⟩
theorem dl_665 : dc code 665 668 (.invokevirtual 67) 3 := ⟨by decide +kernel, rfl⟩
theorem dl_668 : db code 668 671 1596 (.if_icmp .eq (928)) 3 (928) := ⟨by decide +kernel, rfl, rfl⟩
theorem dl_671 : dc code 671 672 (.iconst 0) 1 := ⟨by decide +kernel, rfl⟩
theorem dl_672 : dc code 672 673 .ireturn 1 := ⟨by decide +kernel, rfl⟩
theorem dl_673 : dc code 673 674 (.aload_n 1) 1 := ⟨by decide +kernel, rfl⟩
theorem dl_674 : dc code 674 675 (.aload_n 0) 1 := ⟨by decide +kernel, rfl⟩
theorem dl_675 : dc code 675 676 (.iload_n 3) 1 := ⟨by decide +kernel, rfl⟩
theorem dl_676 : dc code 676 677 (.iconst 1) 1 := ⟨by decide +kernel, rfl⟩
theorem dl_677 : dc code 677 678 .iadd 1 := ⟨by decide +kernel, rfl⟩
theorem dl_678 : dc code 678 679 .iaload 1 := ⟨by decide +kernel, rfl⟩
theorem dl_679 : dc code 679 682 (.invokevirtual 68) 3 := ⟨by decide +kernel, rfl⟩
theorem dl_682 : dc code 682 683 (.aload_n 2) 1 := ⟨by decide +kernel, rfl⟩
theorem dl_683 : dc code 683 684 (.aload_n 0) 1 := ⟨by decide +kernel, rfl⟩
theorem dl_684 : dc code 684 685 (.iload_n 3) 1 := ⟨by decide +kernel, rfl⟩
theorem dl_685 : dc code 685 686 (.iconst 1) 1 := ⟨by decide +kernel, rfl⟩
theorem dl_686 : dc code 686 687 .iadd 1 := ⟨by decide +kernel, rfl⟩
theorem dl_687 : dc code 687 688 .iaload 1 := ⟨by decide +kernel, rfl⟩
theorem dl_688 : dc code 688 691 (.invokevirtual 71) 3 := ⟨by decide +kernel, rfl⟩
theorem dl_691 : db code 691 694 1596 (.if_icmp .eq (905)) 3 (905) := ⟨by decide +kernel, rfl, rfl⟩
theorem dl_694 : dc code 694 695 (.iconst 0) 1 := ⟨by decide +kernel, rfl⟩
theorem dl_695 : dc code 695 696 .ireturn 1 := ⟨by decide +kernel, rfl⟩
theorem dl_696 : dc code 696 697 (.aload_n 1) 1 := ⟨by decide +kernel, rfl⟩
theorem dl_697 : dc code 697 698 (.aload_n 0) 1 := ⟨by decide +kernel, rfl⟩
theorem dl_698 : dc code 698 699 (.iload_n 3) 1 := ⟨by decide +kernel, rfl⟩
theorem dl_699 : dc code 699 700 (.iconst 1) 1 := ⟨by decide +kernel, rfl⟩
theorem dl_700 : dc code 700 701 .iadd 1 := ⟨by decide +kernel, rfl⟩
theorem dl_701 : dc code 701 702 .iaload 1 := ⟨by decide +kernel, rfl⟩
theorem dl_702 : dc code 702 705 (.invokevirtual 72) 3 := ⟨by decide +kernel, rfl⟩
theorem dl_705 : dc code 705 706 (.aload_n 2) 1 := ⟨by decide +kernel, rfl⟩
theorem dl_706 : dc code 706 707 (.aload_n 0) 1 := ⟨by decide +kernel, rfl⟩
theorem dl_707 : dc code 707 708 (.iload_n 3) 1 := ⟨by decide +kernel, rfl⟩
theorem dl_708 : dc code 708 709 (.iconst 1) 1 := ⟨by decide +kernel, rfl⟩
theorem dl_709 : dc code 709 710 .iadd 1 := ⟨by decide +kernel, rfl⟩
theorem dl_710 : dc code 710 711 .iaload 1 := ⟨by decide +kernel, rfl⟩
theorem dl_711 : dc code 711 714 (.invokevirtual 75) 3 := ⟨by decide +kernel, rfl⟩
theorem dl_714 : db code 714 717 1596 (.if_icmp .eq (882)) 3 (882) := ⟨by decide +kernel, rfl, rfl⟩
theorem dl_717 : dc code 717 718 (.iconst 0) 1 := ⟨by decide +kernel, rfl⟩
theorem dl_718 : dc code 718 719 .ireturn 1 := ⟨by decide +kernel, rfl⟩
theorem dl_719 : dc code 719 720 (.aload_n 1) 1 := ⟨by decide +kernel, rfl⟩
theorem dl_720 : dc code 720 721 (.aload_n 0) 1 := ⟨by decide +kernel, rfl⟩
theorem dl_721 : dc code 721 722 (.iload_n 3) 1 := ⟨by decide +kernel, rfl⟩
theorem dl_722 : dc code 722 723 (.iconst 1) 1 := ⟨by decide +kernel, rfl⟩
theorem dl_723 : dc code 723 724 .iadd 1 := ⟨by decide +kernel, rfl⟩
theorem dl_724 : dc code 724 725 .iaload 1 := ⟨by decide +kernel, rfl⟩
theorem dl_725 : dc code 725 728 (.invokevirtual 76) 3 := ⟨by decide +kernel, rfl⟩
theorem dl_728 : dc code 728 729 (.aload_n 2) 1 := ⟨by decide +kernel, rfl⟩
theorem dl_729 : dc code 729 730 (.aload_n 0) 1 := ⟨by decide +kernel, rfl⟩
theorem dl_730 : dc code 730 731 (.iload_n 3) 1 := ⟨by decide +kernel, rfl⟩
theorem dl_731 : dc code 731 732 (.iconst 1) 1 := ⟨by decide +kernel, rfl⟩
theorem dl_732 : dc code 732 733 .iadd 1 := ⟨by decide +kernel, rfl⟩
theorem dl_733 : dc code 733 734 .iaload 1 := ⟨by decide +kernel, rfl⟩
theorem dl_734 : dc code 734 737 (.invokevirtual 79) 3 := ⟨by decide +kernel, rfl⟩
theorem dl_737 : db code 737 740 1596 (.if_icmp .eq (859)) 3 (859) := ⟨by decide +kernel, rfl, rfl⟩
theorem dl_740 : dc code 740 741 (.iconst 0) 1 := ⟨by decide +kernel, rfl⟩
theorem dl_741 : dc code 741 742 .ireturn 1 := ⟨by decide +kernel, rfl⟩
theorem dl_742 : dc code 742 743 (.aload_n 1) 1 := ⟨by decide +kernel, rfl⟩
theorem dl_743 : dc code 743 744 (.aload_n 0) 1 := ⟨by decide +kernel, rfl⟩
theorem dl_744 : dc code 744 745 (.iload_n 3) 1 := ⟨by decide +kernel, rfl⟩
theorem dl_745 : dc code 745 746 (.iconst 1) 1 := ⟨by decide +kernel, rfl⟩
theorem dl_746 : dc code 746 747 .iadd 1 := ⟨by decide +kernel, rfl⟩
theorem dl_747 : dc code 747 748 .iaload 1 := ⟨by decide +kernel, rfl⟩
theorem dl_748 : dc code 748 749 (.aload_n 0) 1 := ⟨by decide +kernel, rfl⟩
theorem dl_749 : dc code 749 750 (.iload_n 3) 1 := ⟨by decide +kernel, rfl⟩
theorem dl_750 : dc code 750 751 (.iconst 2) 1 := ⟨by decide +kernel, rfl⟩
theorem dl_751 : dc code 751 752 .iadd 1 := ⟨by decide +kernel, rfl⟩
theorem dl_752 : dc code 752 753 .iaload 1 := ⟨by decide +kernel, rfl⟩
theorem dl_753 : dc code 753 756 (.invokevirtual 80) 3 := ⟨by decide +kernel, rfl⟩
theorem dl_756 : dc code 756 757 (.aload_n 2) 1 := ⟨by decide +kernel, rfl⟩
theorem dl_757 : dc code 757 758 (.aload_n 0) 1 := ⟨by decide +kernel, rfl⟩
theorem dl_758 : dc code 758 759 (.iload_n 3) 1 := ⟨by decide +kernel, rfl⟩
theorem dl_759 : dc code 759 760 (.iconst 1) 1 := ⟨by decide +kernel, rfl⟩
theorem dl_760 : dc code 760 761 .iadd 1 := ⟨by decide +kernel, rfl⟩
theorem dl_761 : dc code 761 762 .iaload 1 := ⟨by decide +kernel, rfl⟩
theorem dl_762 : dc code 762 763 (.aload_n 0) 1 := ⟨by decide +kernel, rfl⟩
theorem dl_763 : dc code 763 764 (.iload_n 3) 1 := ⟨by decide +kernel, rfl⟩
theorem dl_764 : dc code 764 765 (.iconst 2) 1 := ⟨by decide +kernel, rfl⟩
theorem dl_765 : dc code 765 766 .iadd 1 := ⟨by decide +kernel, rfl⟩
theorem dl_766 : dc code 766 767 .iaload 1 := ⟨by decide +kernel, rfl⟩
theorem dl_767 : dc code 767 770 (.invokevirtual 83) 3 := ⟨by decide +kernel, rfl⟩
theorem dl_770 : db code 770 773 1596 (.if_icmp .eq (826)) 3 (826) := ⟨by decide +kernel, rfl, rfl⟩
theorem dl_773 : dc code 773 774 (.iconst 0) 1 := ⟨by decide +kernel, rfl⟩
theorem dl_774 : dc code 774 775 .ireturn 1 := ⟨by decide +kernel, rfl⟩
theorem dl_775 : dc code 775 776 (.aload_n 1) 1 := ⟨by decide +kernel, rfl⟩
theorem dl_776 : dc code 776 777 (.aload_n 0) 1 := ⟨by decide +kernel, rfl⟩
theorem dl_777 : dc code 777 778 (.iload_n 3) 1 := ⟨by decide +kernel, rfl⟩
theorem dl_778 : dc code 778 779 (.iconst 1) 1 := ⟨by decide +kernel, rfl⟩
theorem dl_779 : dc code 779 780 .iadd 1 := ⟨by decide +kernel, rfl⟩
theorem dl_780 : dc code 780 781 .iaload 1 := ⟨by decide +kernel, rfl⟩
theorem dl_781 : dc code 781 782 (.aload_n 0) 1 := ⟨by decide +kernel, rfl⟩
theorem dl_782 : dc code 782 783 (.iload_n 3) 1 := ⟨by decide +kernel, rfl⟩
theorem dl_783 : dc code 783 784 (.iconst 2) 1 := ⟨by decide +kernel, rfl⟩
theorem dl_784 : dc code 784 785 .iadd 1 := ⟨by decide +kernel, rfl⟩
theorem dl_785 : dc code 785 786 .iaload 1 := ⟨by decide +kernel, rfl⟩
theorem dl_786 : dc code 786 787 (.aload_n 0) 1 := ⟨by decide +kernel, rfl⟩
theorem dl_787 : dc code 787 788 (.iload_n 3) 1 := ⟨by decide +kernel, rfl⟩
theorem dl_788 : dc code 788 789 (.iconst 3) 1 := ⟨by decide +kernel, rfl⟩
theorem dl_789 : dc code 789 790 .iadd 1 := ⟨by decide +kernel, rfl⟩
theorem dl_790 : dc code 790 791 .iaload 1 := ⟨by decide +kernel, rfl⟩
theorem dl_791 : dc code 791 794 (.invokevirtual 84) 3 := ⟨by decide +kernel, rfl⟩
theorem dl_794 : dc code 794 795 (.aload_n 2) 1 := ⟨by decide +kernel, rfl⟩
theorem dl_795 : dc code 795 796 (.aload_n 0) 1 := ⟨by decide +kernel, rfl⟩
theorem dl_796 : dc code 796 797 (.iload_n 3) 1 := ⟨by decide +kernel, rfl⟩
theorem dl_797 : dc code 797 798 (.iconst 1) 1 := ⟨by decide +kernel, rfl⟩
theorem dl_798 : dc code 798 799 .iadd 1 := ⟨by decide +kernel, rfl⟩
theorem dl_799 : dc code 799 800 .iaload 1 := ⟨by decide +kernel, rfl⟩
theorem dl_800 : dc code 800 801 (.aload_n 0) 1 := ⟨by decide +kernel, rfl⟩
theorem dl_801 : dc code 801 802 (.iload_n 3) 1 := ⟨by decide +kernel, rfl⟩
theorem dl_802 : dc code 802 803 (.iconst 2) 1 := ⟨by decide +kernel, rfl⟩
theorem dl_803 : dc code 803 804 .iadd 1 := ⟨by decide +kernel, rfl⟩
theorem dl_804 : dc code 804 805 .iaload 1 := ⟨by decide +kernel, rfl⟩
theorem dl_805 : dc code 805 806 (.aload_n 0) 1 := ⟨by decide +kernel, rfl⟩
theorem dl_806 : dc code 806 807 (.iload_n 3) 1 := ⟨by decide +kernel, rfl⟩
theorem dl_807 : dc code 807 808 (.iconst 3) 1 := ⟨by decide +kernel, rfl⟩
theorem dl_808 : dc code 808 809 .iadd 1 := ⟨by decide +kernel, rfl⟩
theorem dl_809 : dc code 809 810 .iaload 1 := ⟨by decide +kernel, rfl⟩
theorem dl_810 : dc code 810 813 (.invokevirtual 87) 3 := ⟨by decide +kernel, rfl⟩
theorem dl_813 : db code 813 816 1596 (.if_icmp .eq (783)) 3 (783) := ⟨by decide +kernel, rfl, rfl⟩
theorem dl_816 : dc code 816 817 (.iconst 0) 1 := ⟨by decide +kernel, rfl⟩
theorem dl_817 : dc code 817 818 .ireturn 1 := ⟨by decide +kernel, rfl⟩
theorem dl_818 : dc code 818 819 (.aload_n 1) 1 := ⟨by decide +kernel, rfl⟩
theorem dl_819 : dc code 819 820 (.aload_n 0) 1 := ⟨by decide +kernel, rfl⟩
theorem dl_820 : dc code 820 821 (.iload_n 3) 1 := ⟨by decide +kernel, rfl⟩
theorem dl_821 : dc code 821 822 (.iconst 1) 1 := ⟨by decide +kernel, rfl⟩
theorem dl_822 : dc code 822 823 .iadd 1 := ⟨by decide +kernel, rfl⟩
theorem dl_823 : dc code 823 824 .iaload 1 := ⟨by decide +kernel, rfl⟩
theorem dl_824 : dc code 824 827 (.invokevirtual 88) 3 := ⟨by decide +kernel, rfl⟩
theorem dl_827 : dc code 827 828 (.aload_n 2) 1 := ⟨by decide +kernel, rfl⟩
theorem dl_828 : dc code 828 829 (.aload_n 0) 1 := ⟨by decide +kernel, rfl⟩
theorem dl_829 : dc code 829 830 (.iload_n 3) 1 := ⟨by decide +kernel, rfl⟩
theorem dl_830 : dc code 830 831 (.iconst 1) 1 := ⟨by decide +kernel, rfl⟩
theorem dl_831 : dc code 831 832 .iadd 1 := ⟨by decide +kernel, rfl⟩
theorem dl_832 : dc code 832 833 .iaload 1 := ⟨by decide +kernel, rfl⟩
theorem dl_833 : dc code 833 836 (.invokevirtual 91) 3 := ⟨by decide +kernel, rfl⟩
theorem dl_836 : db code 836 839 1596 (.if_icmp .eq (760)) 3 (760) := ⟨by decide +kernel, rfl, rfl⟩
theorem dl_839 : dc code 839 840 (.iconst 0) 1 := ⟨by decide +kernel, rfl⟩
theorem dl_840 : dc code 840 841 .ireturn 1 := ⟨by decide +kernel, rfl⟩
theorem dl_841 : dc code 841 842 (.aload_n 1) 1 := ⟨by decide +kernel, rfl⟩
theorem dl_842 : dc code 842 843 (.aload_n 0) 1 := ⟨by decide +kernel, rfl⟩
theorem dl_843 : dc code 843 844 (.iload_n 3) 1 := ⟨by decide +kernel, rfl⟩
theorem dl_844 : dc code 844 845 (.iconst 1) 1 := ⟨by decide +kernel, rfl⟩
theorem dl_845 : dc code 845 846 .iadd 1 := ⟨by decide +kernel, rfl⟩
theorem dl_846 : dc code 846 847 .iaload 1 := ⟨by decide +kernel, rfl⟩
theorem dl_847 : dc code 847 848 (.aload_n 0) 1 := ⟨by decide +kernel, rfl⟩
theorem dl_848 : dc code 848 849 (.iload_n 3) 1 := ⟨by decide +kernel, rfl⟩
theorem dl_849 : dc code 849 850 (.iconst 2) 1 := ⟨by decide +kernel, rfl⟩
theorem dl_850 : dc code 850 851 .iadd 1 := ⟨by decide +kernel, rfl⟩
theorem dl_851 : dc code 851 852 .iaload 1 := ⟨by decide +kernel, rfl⟩
theorem dl_852 : dc code 852 853 (.aload_n 0) 1 := ⟨by decide +kernel, rfl⟩
theorem dl_853 : dc code 853 854 (.iload_n 3) 1 := ⟨by decide +kernel, rfl⟩
theorem dl_854 : dc code 854 855 (.iconst 3) 1 := ⟨by decide +kernel, rfl⟩
theorem dl_855 : dc code 855 856 .iadd 1 := ⟨by decide +kernel, rfl⟩
theorem dl_856 : dc code 856 857 .iaload 1 := ⟨by decide +kernel, rfl⟩
theorem dl_857 : dc code 857 860 (.invokevirtual 92) 3 := ⟨by decide +kernel, rfl⟩
theorem dl_860 : dc code 860 861 (.aload_n 2) 1 := ⟨by decide +kernel, rfl⟩
theorem dl_861 : dc code 861 862 (.aload_n 0) 1 := ⟨by decide +kernel, rfl⟩
theorem dl_862 : dc code 862 863 (.iload_n 3) 1 := ⟨by decide +kernel, rfl⟩
theorem dl_863 : dc code 863 864 (.iconst 1) 1 := ⟨by decide +kernel, rfl⟩
theorem dl_864 : dc code 864 865 .iadd 1 := ⟨by decide +kernel, rfl⟩
theorem dl_865 : dc code 865 866 .iaload 1 := ⟨by decide +kernel, rfl⟩
theorem dl_866 : dc code 866 867 (.aload_n 0) 1 := ⟨by decide +kernel, rfl⟩
theorem dl_867 : dc code 867 868 (.iload_n 3) 1 := ⟨by decide +kernel, rfl⟩
theorem dl_868 : dc code 868 869 (.iconst 2) 1 := ⟨by decide +kernel, rfl⟩
theorem dl_869 : dc code 869 870 .iadd 1 := ⟨by decide +kernel, rfl⟩
theorem dl_870 : dc code 870 871 .iaload 1 := ⟨by decide +kernel, rfl⟩
theorem dl_871 : dc code 871 872 (.aload_n 0) 1 := ⟨by decide +kernel, rfl⟩
theorem dl_872 : dc code 872 873 (.iload_n 3) 1 := ⟨by decide +kernel, rfl⟩
theorem dl_873 : dc code 873 874 (.iconst 3) 1 := ⟨by decide +kernel, rfl⟩
theorem dl_874 : dc code 874 875 .iadd 1 := ⟨by decide +kernel, rfl⟩
theorem dl_875 : dc code 875 876 .iaload 1 := ⟨by decide +kernel, rfl⟩
theorem dl_876 : dc code 876 879 (.invokevirtual 95) 3 := ⟨by decide +kernel, rfl⟩
theorem dl_879 : db code 879 882 1596 (.if_icmp .eq (717)) 3 (717) := ⟨by decide +kernel, rfl, rfl⟩
theorem dl_882 : dc code 882 883 (.iconst 0) 1 := ⟨by decide +kernel, rfl⟩
theorem dl_883 : dc code 883 884 .ireturn 1 := ⟨by decide +kernel, rfl⟩
theorem dl_884 : dc code 884 885 (.aload_n 1) 1 := ⟨by decide +kernel, rfl⟩
theorem dl_885 : dc code 885 886 (.aload_n 0) 1 := ⟨by decide +kernel, rfl⟩
theorem dl_886 : dc code 886 887 (.iload_n 3) 1 := ⟨by decide +kernel, rfl⟩
theorem dl_887 : dc code 887 888 (.iconst 1) 1 := ⟨by decide +kernel, rfl⟩
theorem dl_888 : dc code 888 889 .iadd 1 := ⟨by decide +kernel, rfl⟩
theorem dl_889 : dc code 889 890 .iaload 1 := ⟨by decide +kernel, rfl⟩
theorem dl_890 : dc code 890 891 (.aload_n 0) 1 := ⟨by decide +kernel, rfl⟩
theorem dl_891 : dc code 891 892 (.iload_n 3) 1 := ⟨by decide +kernel, rfl⟩
theorem dl_892 : dc code 892 893 (.iconst 2) 1 := ⟨by decide +kernel, rfl⟩
theorem dl_893 : dc code 893 894 .iadd 1 := ⟨by decide +kernel, rfl⟩
theorem dl_894 : dc code 894 895 .iaload 1 := ⟨by decide +kernel, rfl⟩
theorem dl_895 : dc code 895 898 (.invokevirtual 96) 3 := ⟨by decide +kernel, rfl⟩
theorem dl_898 : dc code 898 899 (.aload_n 2) 1 := ⟨by decide +kernel, rfl⟩
theorem dl_899 : dc code 899 900 (.aload_n 0) 1 := ⟨by decide +kernel, rfl⟩
theorem dl_900 : dc code 900 901 (.iload_n 3) 1 := ⟨by decide +kernel, rfl⟩
theorem dl_901 : dc code 901 902 (.iconst 1) 1 := ⟨by decide +kernel, rfl⟩
theorem dl_902 : dc code 902 903 .iadd 1 := ⟨by decide +kernel, rfl⟩
theorem dl_903 : dc code 903 904 .iaload 1 := ⟨by decide +kernel, rfl⟩
theorem dl_904 : dc code 904 905 (.aload_n 0) 1 := ⟨by decide +kernel, rfl⟩
theorem dl_905 : dc code 905 906 (.iload_n 3) 1 := ⟨by decide +kernel, rfl⟩
theorem dl_906 : dc code 906 907 (.iconst 2) 1 := ⟨by decide +kernel, rfl⟩
theorem dl_907 : dc code 907 908 .iadd 1 := ⟨by decide +kernel, rfl⟩
theorem dl_908 : dc code 908 909 .iaload 1 := ⟨by decide +kernel, rfl⟩
theorem dl_909 : dc code 909 912 (.invokevirtual 99) 3 := ⟨by decide +kernel, rfl⟩
theorem dl_912 : db code 912 915 1596 (.if_icmp .eq (684)) 3 (684) := ⟨by decide +kernel, rfl, rfl⟩
theorem dl_915 : dc code 915 916 (.iconst 0) 1 := ⟨by decide +kernel, rfl⟩
theorem dl_916 : dc code 916 917 .ireturn 1 := ⟨by decide +kernel, rfl⟩
theorem dl_917 : dc code 917 918 (.aload_n 1) 1 := ⟨by decide +kernel, rfl⟩
theorem dl_918 : dc code 918 919 (.aload_n 0) 1 := ⟨by decide +kernel, rfl⟩
theorem dl_919 : dc code 919 920 (.iload_n 3) 1 := ⟨by decide +kernel, rfl⟩
theorem dl_920 : dc code 920 921 (.iconst 1) 1 := ⟨by decide +kernel, rfl⟩
theorem dl_921 : dc code 921 922 .iadd 1 := ⟨by decide +kernel, rfl⟩
theorem dl_922 : dc code 922 923 .iaload 1 := ⟨by decide +kernel, rfl⟩
theorem dl_923 : dc code 923 924 (.aload_n 0) 1 := ⟨by decide +kernel, rfl⟩
theorem dl_924 : dc code 924 925 (.iload_n 3) 1 := ⟨by decide +kernel, rfl⟩
theorem dl_925 : dc code 925 926 (.iconst 2) 1 := ⟨by decide +kernel, rfl⟩
theorem dl_926 : dc code 926 927 .iadd 1 := ⟨by decide +kernel, rfl⟩
theorem dl_927 : dc code 927 928 .iaload 1 := ⟨by decide +kernel, rfl⟩
theorem dl_928 : dc code 928 931 (.invokevirtual 100) 3 := ⟨by decide +kernel, rfl⟩
theorem dl_931 : dc code 931 932 (.aload_n 2) 1 := ⟨by decide +kernel, rfl⟩
theorem dl_932 : dc code 932 933 (.aload_n 0) 1 := ⟨by decide +kernel, rfl⟩
theorem dl_933 : dc code 933 934 (.iload_n 3) 1 := ⟨by decide +kernel, rfl⟩
theorem dl_934 : dc code 934 935 (.iconst 1) 1 := ⟨by decide +kernel, rfl⟩
theorem dl_935 : dc code 935 936 .iadd 1 := ⟨by decide +kernel, rfl⟩
theorem dl_936 : dc code 936 937 .iaload 1 := ⟨by decide +kernel, rfl⟩
theorem dl_937 : dc code 937 938 (.aload_n 0) 1 := ⟨by decide +kernel, rfl⟩
theorem dl_938 : dc code 938 939 (.iload_n 3) 1 := ⟨by decide +kernel, rfl⟩
theorem dl_939 : dc code 939 940 (.iconst 2) 1 := ⟨by decide +kernel, rfl⟩
theorem dl_940 : dc code 940 941 .iadd 1 := ⟨by decide +kernel, rfl⟩
theorem dl_941 : dc code 941 942 .iaload 1 := ⟨by decide +kernel, rfl⟩
theorem dl_942 : dc code 942 945 (.invokevirtual 103) 3 := ⟨by decide +kernel, rfl⟩
theorem dl_945 : db code 945 948 1596 (.if_icmp .eq (651)) 3 (651) := ⟨by decide +kernel, rfl, rfl⟩
theorem dl_948 : dc code 948 949 (.iconst 0) 1 := ⟨by decide +kernel, rfl⟩
theorem dl_949 : dc code 949 950 .ireturn 1 := ⟨by decide +kernel, rfl⟩
theorem dl_950 : dc code 950 951 (.aload_n 1) 1 := ⟨by decide +kernel, rfl⟩
theorem dl_951 : dc code 951 952 (.aload_n 0) 1 := ⟨by decide +kernel, rfl⟩
theorem dl_952 : dc code 952 953 (.iload_n 3) 1 := ⟨by decide +kernel, rfl⟩
theorem dl_953 : dc code 953 954 (.iconst 1) 1 := ⟨by decide +kernel, rfl⟩
theorem dl_954 : dc code 954 955 .iadd 1 := ⟨by decide +kernel, rfl⟩
theorem dl_955 : dc code 955 956 .iaload 1 := ⟨by decide +kernel, rfl⟩
theorem dl_956 : dc code 956 957 (.aload_n 0) 1 := ⟨by decide +kernel, rfl⟩
theorem dl_957 : dc code 957 958 (.iload_n 3) 1 := ⟨by decide +kernel, rfl⟩
theorem dl_958 : dc code 958 959 (.iconst 2) 1 := ⟨by decide +kernel, rfl⟩
theorem dl_959 : dc code 959 960 .iadd 1 := ⟨by decide +kernel, rfl⟩
theorem dl_960 : dc code 960 961 .iaload 1 := ⟨by decide +kernel, rfl⟩
theorem dl_961 : dc code 961 962 (.aload_n 0) 1 := ⟨by decide +kernel, rfl⟩
theorem dl_962 : dc code 962 963 (.iload_n 3) 1 := ⟨by decide +kernel, rfl⟩
theorem dl_963 : dc code 963 964 (.iconst 3) 1 := ⟨by decide +kernel, rfl⟩
theorem dl_964 : dc code 964 965 .iadd 1 := ⟨by decide +kernel, rfl⟩
theorem dl_965 : dc code 965 966 .iaload 1 := ⟨by decide +kernel, rfl⟩
theorem dl_966 : dc code 966 969 (.invokevirtual 104) 3 := ⟨by decide +kernel, rfl⟩
theorem dl_969 : dc code 969 970 (.aload_n 2) 1 := ⟨by decide +kernel, rfl⟩
theorem dl_970 : dc code 970 971 (.aload_n 0) 1 := ⟨by decide +kernel, rfl⟩
theorem dl_971 : dc code 971 972 (.iload_n 3) 1 := ⟨by decide +kernel, rfl⟩
theorem dl_972 : dc code 972 973 (.iconst 1) 1 := ⟨by decide +kernel, rfl⟩
theorem dl_973 : dc code 973 974 .iadd 1 := ⟨by decide +kernel, rfl⟩
theorem dl_974 : dc code 974 975 .iaload 1 := ⟨by decide +kernel, rfl⟩
theorem dl_975 : dc code 975 976 (.aload_n 0) 1 := ⟨by decide +kernel, rfl⟩
theorem dl_976 : dc code 976 977 (.iload_n 3) 1 := ⟨by decide +kernel, rfl⟩
theorem dl_977 : dc code 977 978 (.iconst 2) 1 := ⟨by decide +kernel, rfl⟩
theorem dl_978 : dc code 978 979 .iadd 1 := ⟨by decide +kernel, rfl⟩
theorem dl_979 : dc code 979 980 .iaload 1 := ⟨by decide +kernel, rfl⟩
theorem dl_980 : dc code 980 981 (.aload_n 0) 1 := ⟨by decide +kernel, rfl⟩
theorem dl_981 : dc code 981 982 (.iload_n 3) 1 := ⟨by decide +kernel, rfl⟩
theorem dl_982 : dc code 982 983 (.iconst 3) 1 := ⟨by decide +kernel, rfl⟩
theorem dl_983 : dc code 983 984 .iadd 1 := ⟨by decide +kernel, rfl⟩
theorem dl_984 : dc code 984 985 .iaload 1 := ⟨by decide +kernel, rfl⟩
theorem dl_985 : dc code 985 988 (.invokevirtual 107) 3 := ⟨by decide +kernel, rfl⟩
theorem dl_988 : db code 988 991 1596 (.if_icmp .eq (608)) 3 (608) := ⟨by decide +kernel, rfl, rfl⟩
theorem dl_991 : dc code 991 992 (.iconst 0) 1 := ⟨by decide +kernel, rfl⟩
theorem dl_992 : dc code 992 993 .ireturn 1 := ⟨by decide +kernel, rfl⟩
theorem dl_993 : dc code 993 994 (.aload_n 1) 1 := ⟨by decide +kernel, rfl⟩
theorem dl_994 : dc code 994 997 (.invokevirtual 108) 3 := ⟨by decide +kernel, rfl⟩
theorem dl_997 : dc code 997 998 (.aload_n 2) 1 := ⟨by decide +kernel, rfl⟩
theorem dl_998 : dc code 998 1001 (.invokevirtual 112) 3 := ⟨by decide +kernel, rfl⟩
theorem dl_1001 : db code 1001 1004 1596 (.if_icmp .eq (595)) 3 (595) := ⟨by decide +kernel, rfl, rfl⟩
theorem dl_1004 : dc code 1004 1005 (.iconst 0) 1 := ⟨by decide +kernel, rfl⟩
theorem dl_1005 : dc code 1005 1006 .ireturn 1 := ⟨by decide +kernel, rfl⟩
theorem dl_1006 : dc code 1006 1007 (.aload_n 1) 1 := ⟨by decide +kernel, rfl⟩
theorem dl_1007 : dc code 1007 1008 (.aload_n 0) 1 := ⟨by decide +kernel, rfl⟩
theorem dl_1008 : dc code 1008 1009 (.iload_n 3) 1 := ⟨by decide +kernel, rfl⟩
theorem dl_1009 : dc code 1009 1010 (.iconst 1) 1 := ⟨by decide +kernel, rfl⟩
theorem dl_1010 : dc code 1010 1011 .iadd 1 := ⟨by decide +kernel, rfl⟩
theorem dl_1011 : dc code 1011 1012 .iaload 1 := ⟨by decide +kernel, rfl⟩
theorem dl_1012 : dc code 1012 1015 (.invokevirtual 113) 3 := ⟨by decide +kernel, rfl⟩
theorem dl_1015 : dc code 1015 1016 (.aload_n 2) 1 := ⟨by decide +kernel, rfl⟩
theorem dl_1016 : dc code 1016 1017 (.aload_n 0) 1 := ⟨by decide +kernel, rfl⟩
theorem dl_1017 : dc code 1017 1018 (.iload_n 3) 1 := ⟨by decide +kernel, rfl⟩
theorem dl_1018 : dc code 1018 1019 (.iconst 1) 1 := ⟨by decide +kernel, rfl⟩
theorem dl_1019 : dc code 1019 1020 .iadd 1 := ⟨by decide +kernel, rfl⟩
theorem dl_1020 : dc code 1020 1021 .iaload 1 := ⟨by decide +kernel, rfl⟩
theorem dl_1021 : dc code 1021 1024 (.invokevirtual 116) 3 := ⟨by decide +kernel, rfl⟩
theorem dl_1024 : db code 1024 1027 1596 (.if_icmp .eq (572)) 3 (572) := ⟨by decide +kernel, rfl, rfl⟩
theorem dl_1027 : dc code 1027 1028 (.iconst 0) 1 := ⟨by decide +kernel, rfl⟩
theorem dl_1028 : dc code 1028 1029 .ireturn 1 := ⟨by decide +kernel, rfl⟩
theorem dl_1029 : dc code 1029 1030 (.aload_n 1) 1 := ⟨by decide +kernel, rfl⟩
theorem dl_1030 : dc code 1030 1031 (.aload_n 0) 1 := ⟨by decide +kernel, rfl⟩
theorem dl_1031 : dc code 1031 1032 (.iload_n 3) 1 := ⟨by decide +kernel, rfl⟩
theorem dl_1032 : dc code 1032 1033 (.iconst 1) 1 := ⟨by decide +kernel, rfl⟩
theorem dl_1033 : dc code 1033 1034 .iadd 1 := ⟨by decide +kernel, rfl⟩
theorem dl_1034 : dc code 1034 1035 .iaload 1 := ⟨by decide +kernel, rfl⟩
theorem dl_1035 : dc code 1035 1036 (.aload_n 0) 1 := ⟨by decide +kernel, rfl⟩
theorem dl_1036 : dc code 1036 1037 (.iload_n 3) 1 := ⟨by decide +kernel, rfl⟩
theorem dl_1037 : dc code 1037 1038 (.iconst 2) 1 := ⟨by decide +kernel, rfl⟩
theorem dl_1038 : dc code 1038 1039 .iadd 1 := ⟨by decide +kernel, rfl⟩
theorem dl_1039 : dc code 1039 1040 .iaload 1 := ⟨by decide +kernel, rfl⟩
theorem dl_1040 : dc code 1040 1041 (.aload_n 0) 1 := ⟨by decide +kernel, rfl⟩
theorem dl_1041 : dc code 1041 1042 (.iload_n 3) 1 := ⟨by decide +kernel, rfl⟩
theorem dl_1042 : dc code 1042 1043 (.iconst 3) 1 := ⟨by decide +kernel, rfl⟩
theorem dl_1043 : dc code 1043 1044 .iadd 1 := ⟨by decide +kernel, rfl⟩
theorem dl_1044 : dc code 1044 1045 .iaload 1 := ⟨by decide +kernel, rfl⟩
theorem dl_1045 : dc code 1045 1048 (.invokevirtual 117) 3 := ⟨by decide +kernel, rfl⟩
theorem dl_1048 : dc code 1048 1049 (.aload_n 2) 1 := ⟨by decide +kernel, rfl⟩
theorem dl_1049 : dc code 1049 1050 (.aload_n 0) 1 := ⟨by decide +kernel, rfl⟩
theorem dl_1050 : dc code 1050 1051 (.iload_n 3) 1 := ⟨by decide +kernel, rfl⟩
theorem dl_1051 : dc code 1051 1052 (.iconst 1) 1 := ⟨by decide +kernel, rfl⟩
theorem dl_1052 : dc code 1052 1053 .iadd 1 := ⟨by decide +kernel, rfl⟩
theorem dl_1053 : dc code 1053 1054 .iaload 1 := ⟨by decide +kernel, rfl⟩
theorem dl_1054 : dc code 1054 1055 (.aload_n 0) 1 := ⟨by decide +kernel, rfl⟩
theorem dl_1055 : dc code 1055 1056 (.iload_n 3) 1 := ⟨by decide +kernel, rfl⟩
theorem dl_1056 : dc code 1056 1057 (.iconst 2) 1 := ⟨by decide +kernel, rfl⟩
theorem dl_1057 : dc code 1057 1058 .iadd 1 := ⟨by decide +kernel, rfl⟩
theorem dl_1058 : dc code 1058 1059 .iaload 1 := ⟨by decide +kernel, rfl⟩
theorem dl_1059 : dc code 1059 1060 (.aload_n 0) 1 := ⟨by decide +kernel, rfl⟩
theorem dl_1060 : dc code 1060 1061 (.iload_n 3) 1 := ⟨by decide +kernel, rfl⟩
theorem dl_1061 : dc code 1061 1062 (.iconst 3) 1 := ⟨by decide +kernel, rfl⟩
theorem dl_1062 : dc code 1062 1063 .iadd 1 := ⟨by decide +kernel, rfl⟩
theorem dl_1063 : dc code 1063 1064 .iaload 1 := ⟨by decide +kernel, rfl⟩
theorem dl_1064 : dc code 1064 1067 (.invokevirtual 120) 3 := ⟨by decide +kernel, rfl⟩
theorem dl_1067 : db code 1067 1070 1596 (.if_icmp .eq (529)) 3 (529) := ⟨by decide +kernel, rfl, rfl⟩
theorem dl_1070 : dc code 1070 1071 (.iconst 0) 1 := ⟨by decide +kernel, rfl⟩
theorem dl_1071 : dc code 1071 1072 .ireturn 1 := ⟨by decide +kernel, rfl⟩
theorem dl_1072 : dc code 1072 1073 (.aload_n 1) 1 := ⟨by decide +kernel, rfl⟩
theorem dl_1073 : dc code 1073 1074 (.aload_n 0) 1 := ⟨by decide +kernel, rfl⟩
theorem dl_1074 : dc code 1074 1075 (.iload_n 3) 1 := ⟨by decide +kernel, rfl⟩
theorem dl_1075 : dc code 1075 1076 (.iconst 1) 1 := ⟨by decide +kernel, rfl⟩
theorem dl_1076 : dc code 1076 1077 .iadd 1 := ⟨by decide +kernel, rfl⟩
theorem dl_1077 : dc code 1077 1078 .iaload 1 := ⟨by decide +kernel, rfl⟩
theorem dl_1078 : dc code 1078 1081 (.invokevirtual 121) 3 := ⟨by decide +kernel, rfl⟩
theorem dl_1081 : dc code 1081 1082 (.aload_n 2) 1 := ⟨by decide +kernel, rfl⟩
theorem dl_1082 : dc code 1082 1083 (.aload_n 0) 1 := ⟨by decide +kernel, rfl⟩
theorem dl_1083 : dc code 1083 1084 (.iload_n 3) 1 := ⟨by decide +kernel, rfl⟩
theorem dl_1084 : dc code 1084 1085 (.iconst 1) 1 := ⟨by decide +kernel, rfl⟩
theorem dl_1085 : dc code 1085 1086 .iadd 1 := ⟨by decide +kernel, rfl⟩
theorem dl_1086 : dc code 1086 1087 .iaload 1 := ⟨by decide +kernel, rfl⟩
theorem dl_1087 : dc code 1087 1090 (.invokevirtual 124) 3 := ⟨by decide +kernel, rfl⟩
theorem dl_1090 : db code 1090 1093 1596 (.if_icmp .eq (506)) 3 (506) := ⟨by decide +kernel, rfl, rfl⟩
theorem dl_1093 : dc code 1093 1094 (.iconst 0) 1 := ⟨by decide +kernel, rfl⟩
theorem dl_1094 : dc code 1094 1095 .ireturn 1 := ⟨by decide +kernel, rfl⟩
theorem dl_1095 : dc code 1095 1096 (.aload_n 1) 1 := ⟨by decide +kernel, rfl⟩
theorem dl_1096 : dc code 1096 1099 (.invokevirtual 125) 3 := ⟨by decide +kernel, rfl⟩
theorem dl_1099 : dc code 1099 1100 (.aload_n 2) 1 := ⟨by decide +kernel, rfl⟩
theorem dl_1100 : dc code 1100 1103 (.invokevirtual 128) 3 := ⟨by decide +kernel, rfl⟩
theorem dl_1103 : db code 1103 1106 1596 (.if_icmp .eq (493)) 3 (493) := ⟨by decide +kernel, rfl, rfl⟩
theorem dl_1106 : dc code 1106 1107 (.iconst 0) 1 := ⟨by decide +kernel, rfl⟩
theorem dl_1107 : dc code 1107 1108 .ireturn 1 := ⟨by decide +kernel, rfl⟩
theorem dl_1108 : dc code 1108 1109 (.aload_n 1) 1 := ⟨by decide +kernel, rfl⟩
theorem dl_1109 : dc code 1109 1110 (.aload_n 0) 1 := ⟨by decide +kernel, rfl⟩
theorem dl_1110 : dc code 1110 1111 (.iload_n 3) 1 := ⟨by decide +kernel, rfl⟩
theorem dl_1111 : dc code 1111 1112 (.iconst 1) 1 := ⟨by decide +kernel, rfl⟩
theorem dl_1112 : dc code 1112 1113 .iadd 1 := ⟨by decide +kernel, rfl⟩
theorem dl_1113 : dc code 1113 1114 .iaload 1 := ⟨by decide +kernel, rfl⟩
theorem dl_1114 : dc code 1114 1115 (.aload_n 0) 1 := ⟨by decide +kernel, rfl⟩
theorem dl_1115 : dc code 1115 1116 (.iload_n 3) 1 := ⟨by decide +kernel, rfl⟩
theorem dl_1116 : dc code 1116 1117 (.iconst 2) 1 := ⟨by decide +kernel, rfl⟩
theorem dl_1117 : dc code 1117 1118 .iadd 1 := ⟨by decide +kernel, rfl⟩
theorem dl_1118 : dc code 1118 1119 .iaload 1 := ⟨by decide +kernel, rfl⟩
theorem dl_1119 : dc code 1119 1122 (.invokevirtual 129) 3 := ⟨by decide +kernel, rfl⟩
theorem dl_1122 : dc code 1122 1123 (.aload_n 2) 1 := ⟨by decide +kernel, rfl⟩
theorem dl_1123 : dc code 1123 1124 (.aload_n 0) 1 := ⟨by decide +kernel, rfl⟩
theorem dl_1124 : dc code 1124 1125 (.iload_n 3) 1 := ⟨by decide +kernel, rfl⟩
theorem dl_1125 : dc code 1125 1126 (.iconst 1) 1 := ⟨by decide +kernel, rfl⟩
theorem dl_1126 : dc code 1126 1127 .iadd 1 := ⟨by decide +kernel, rfl⟩
theorem dl_1127 : dc code 1127 1128 .iaload 1 := ⟨by decide +kernel, rfl⟩
theorem dl_1128 : dc code 1128 1129 (.aload_n 0) 1 := ⟨by decide +kernel, rfl⟩
theorem dl_1129 : dc code 1129 1130 (.iload_n 3) 1 := ⟨by decide +kernel, rfl⟩
theorem dl_1130 : dc code 1130 1131 (.iconst 2) 1 := ⟨by decide +kernel, rfl⟩
theorem dl_1131 : dc code 1131 1132 .iadd 1 := ⟨by decide +kernel, rfl⟩
theorem dl_1132 : dc code 1132 1133 .iaload 1 := ⟨by decide +kernel, rfl⟩
theorem dl_1133 : dc code 1133 1136 (.invokevirtual 132) 3 := ⟨by decide +kernel, rfl⟩
theorem dl_1136 : db code 1136 1139 1596 (.if_icmp .eq (460)) 3 (460) := ⟨by decide +kernel, rfl, rfl⟩
theorem dl_1139 : dc code 1139 1140 (.iconst 0) 1 := ⟨by decide +kernel, rfl⟩
theorem dl_1140 : dc code 1140 1141 .ireturn 1 := ⟨by decide +kernel, rfl⟩
theorem dl_1141 : dc code 1141 1142 (.aload_n 1) 1 := ⟨by decide +kernel, rfl⟩
theorem dl_1142 : dc code 1142 1143 (.aload_n 0) 1 := ⟨by decide +kernel, rfl⟩
theorem dl_1143 : dc code 1143 1144 (.iload_n 3) 1 := ⟨by decide +kernel, rfl⟩
theorem dl_1144 : dc code 1144 1145 (.iconst 1) 1 := ⟨by decide +kernel, rfl⟩
theorem dl_1145 : dc code 1145 1146 .iadd 1 := ⟨by decide +kernel, rfl⟩
theorem dl_1146 : dc code 1146 1147 .iaload 1 := ⟨by decide +kernel, rfl⟩
theorem dl_1147 : dc code 1147 1150 (.invokevirtual 133) 3 := ⟨by decide +kernel, rfl⟩
theorem dl_1150 : dc code 1150 1151 (.aload_n 2) 1 := ⟨by decide +kernel, rfl⟩
theorem dl_1151 : dc code 1151 1152 (.aload_n 0) 1 := ⟨by decide +kernel, rfl⟩
theorem dl_1152 : dc code 1152 1153 (.iload_n 3) 1 := ⟨by decide +kernel, rfl⟩
theorem dl_1153 : dc code 1153 1154 (.iconst 1) 1 := ⟨by decide +kernel, rfl⟩
theorem dl_1154 : dc code 1154 1155 .iadd 1 := ⟨by decide +kernel, rfl⟩
theorem dl_1155 : dc code 1155 1156 .iaload 1 := ⟨by decide +kernel, rfl⟩
theorem dl_1156 : dc code 1156 1159 (.invokevirtual 136) 3 := ⟨by decide +kernel, rfl⟩
theorem dl_1159 : db code 1159 1162 1596 (.if_icmp .eq (437)) 3 (437) := ⟨by decide +kernel, rfl, rfl⟩
theorem dl_1162 : dc code 1162 1163 (.iconst 0) 1 := ⟨by decide +kernel, rfl⟩
theorem dl_1163 : dc code 1163 1164 .ireturn 1 := ⟨by decide +kernel, rfl⟩
theorem dl_1164 : dc code 1164 1165 (.aload_n 1) 1 := ⟨by decide +kernel, rfl⟩
theorem dl_1165 : dc code 1165 1166 (.aload_n 0) 1 := ⟨by decide +kernel, rfl⟩
theorem dl_1166 : dc code 1166 1167 (.iload_n 3) 1 := ⟨by decide +kernel, rfl⟩
theorem dl_1167 : dc code 1167 1168 (.iconst 1) 1 := ⟨by decide +kernel, rfl⟩
theorem dl_1168 : dc code 1168 1169 .iadd 1 := ⟨by decide +kernel, rfl⟩
theorem dl_1169 : dc code 1169 1170 .iaload 1 := ⟨by decide +kernel, rfl⟩
theorem dl_1170 : dc code 1170 1171 (.aload_n 0) 1 := ⟨by decide +kernel, rfl⟩
theorem dl_1171 : dc code 1171 1172 (.iload_n 3) 1 := ⟨by decide +kernel, rfl⟩
theorem dl_1172 : dc code 1172 1173 (.iconst 2) 1 := ⟨by decide +kernel, rfl⟩
theorem dl_1173 : dc code 1173 1174 .iadd 1 := ⟨by decide +kernel, rfl⟩
theorem dl_1174 : dc code 1174 1175 .iaload 1 := ⟨by decide +kernel, rfl⟩
theorem dl_1175 : dc code 1175 1176 (.aload_n 0) 1 := ⟨by decide +kernel, rfl⟩
theorem dl_1176 : dc code 1176 1177 (.iload_n 3) 1 := ⟨by decide +kernel, rfl⟩
theorem dl_1177 : dc code 1177 1178 (.iconst 3) 1 := ⟨by decide +kernel, rfl⟩
theorem dl_1178 : dc code 1178 1179 .iadd 1 := ⟨by decide +kernel, rfl⟩
theorem dl_1179 : dc code 1179 1180 .iaload 1 := ⟨by decide +kernel, rfl⟩
theorem dl_1180 : dc code 1180 1183 (.invokevirtual 137) 3 := ⟨by decide +kernel, rfl⟩
theorem dl_1183 : dc code 1183 1184 (.aload_n 2) 1 := ⟨by decide +kernel, rfl⟩
theorem dl_1184 : dc code 1184 1185 (.aload_n 0) 1 := ⟨by decide +kernel, rfl⟩
theorem dl_1185 : dc code 1185 1186 (.iload_n 3) 1 := ⟨by decide +kernel, rfl⟩
theorem dl_1186 : dc code 1186 1187 (.iconst 1) 1 := ⟨by decide +kernel, rfl⟩
theorem dl_1187 : dc code 1187 1188 .iadd 1 := ⟨by decide +kernel, rfl⟩
theorem dl_1188 : dc code 1188 1189 .iaload 1 := ⟨by decide +kernel, rfl⟩
theorem dl_1189 : dc code 1189 1190 (.aload_n 0) 1 := ⟨by decide +kernel, rfl⟩
theorem dl_1190 : dc code 1190 1191 (.iload_n 3) 1 := ⟨by decide +kernel, rfl⟩
theorem dl_1191 : dc code 1191 1192 (.iconst 2) 1 := ⟨by decide +kernel, rfl⟩
theorem dl_1192 : dc code 1192 1193 .iadd 1 := ⟨by decide +kernel, rfl⟩
theorem dl_1193 : dc code 1193 1194 .iaload 1 := ⟨by decide +kernel, rfl⟩
theorem dl_1194 : dc code 1194 1195 (.aload_n 0) 1 := ⟨by decide +kernel, rfl⟩
theorem dl_1195 : dc code 1195 1196 (.iload_n 3) 1 := ⟨by decide +kernel, rfl⟩
theorem dl_1196 : dc code 1196 1197 (.iconst 3) 1 := ⟨by decide +kernel, rfl⟩
theorem dl_1197 : dc code 1197 1198 .iadd 1 := ⟨by decide +kernel, rfl⟩
theorem dl_1198 : dc code 1198 1199 .iaload 1 := ⟨by decide +kernel, rfl⟩
theorem dl_1199 : dc code 1199 1202 (.invokevirtual 140) 3 := ⟨by decide +kernel, rfl⟩
theorem dl_1202 : db code 1202 1205 1596 (.if_icmp .eq (394)) 3 (394) := ⟨by decide +kernel, rfl, rfl⟩
theorem dl_1205 : dc code 1205 1206 (.iconst 0) 1 := ⟨by decide +kernel, rfl⟩
theorem dl_1206 : dc code 1206 1207 .ireturn 1 := ⟨by decide +kernel, rfl⟩
theorem dl_1207 : dc code 1207 1208 (.aload_n 1) 1 := ⟨by decide +kernel, rfl⟩
theorem dl_1208 : dc code 1208 1209 (.aload_n 0) 1 := ⟨by decide +kernel, rfl⟩
theorem dl_1209 : dc code 1209 1210 (.iload_n 3) 1 := ⟨by decide +kernel, rfl⟩
theorem dl_1210 : dc code 1210 1211 (.iconst 1) 1 := ⟨by decide +kernel, rfl⟩
theorem dl_1211 : dc code 1211 1212 .iadd 1 := ⟨by decide +kernel, rfl⟩
theorem dl_1212 : dc code 1212 1213 .iaload 1 := ⟨by decide +kernel, rfl⟩
theorem dl_1213 : dc code 1213 1214 (.aload_n 0) 1 := ⟨by decide +kernel, rfl⟩
theorem dl_1214 : dc code 1214 1215 (.iload_n 3) 1 := ⟨by decide +kernel, rfl⟩
theorem dl_1215 : dc code 1215 1216 (.iconst 2) 1 := ⟨by decide +kernel, rfl⟩
theorem dl_1216 : dc code 1216 1217 .iadd 1 := ⟨by decide +kernel, rfl⟩
theorem dl_1217 : dc code 1217 1218 .iaload 1 := ⟨by decide +kernel, rfl⟩
theorem dl_1218 : dc code 1218 1219 (.aload_n 0) 1 := ⟨by decide +kernel, rfl⟩
theorem dl_1219 : dc code 1219 1220 (.iload_n 3) 1 := ⟨by decide +kernel, rfl⟩
theorem dl_1220 : dc code 1220 1221 (.iconst 3) 1 := ⟨by decide +kernel, rfl⟩
theorem dl_1221 : dc code 1221 1222 .iadd 1 := ⟨by decide +kernel, rfl⟩
theorem dl_1222 : dc code 1222 1223 .iaload 1 := ⟨by decide +kernel, rfl⟩
theorem dl_1223 : dc code 1223 1226 (.invokevirtual 141) 3 := ⟨by decide +kernel, rfl⟩
theorem dl_1226 : dc code 1226 1227 (.aload_n 2) 1 := ⟨by decide +kernel, rfl⟩
theorem dl_1227 : dc code 1227 1228 (.aload_n 0) 1 := ⟨by decide +kernel, rfl⟩
theorem dl_1228 : dc code 1228 1229 (.iload_n 3) 1 := ⟨by decide +kernel, rfl⟩
theorem dl_1229 : dc code 1229 1230 (.iconst 1) 1 := ⟨by decide +kernel, rfl⟩
theorem dl_1230 : dc code 1230 1231 .iadd 1 := ⟨by decide +kernel, rfl⟩
theorem dl_1231 : dc code 1231 1232 .iaload 1 := ⟨by decide +kernel, rfl⟩
theorem dl_1232 : dc code 1232 1233 (.aload_n 0) 1 := ⟨by decide +kernel, rfl⟩
theorem dl_1233 : dc code 1233 1234 (.iload_n 3) 1 := ⟨by decide +kernel, rfl⟩
theorem dl_1234 : dc code 1234 1235 (.iconst 2) 1 := ⟨by decide +kernel, rfl⟩
theorem dl_1235 : dc code 1235 1236 .iadd 1 := ⟨by decide +kernel, rfl⟩
theorem dl_1236 : dc code 1236 1237 .iaload 1 := ⟨by decide +kernel, rfl⟩
theorem dl_1237 : dc code 1237 1238 (.aload_n 0) 1 := ⟨by decide +kernel, rfl⟩
theorem dl_1238 : dc code 1238 1239 (.iload_n 3) 1 := ⟨by decide +kernel, rfl⟩
theorem dl_1239 : dc code 1239 1240 (.iconst 3) 1 := ⟨by decide +kernel, rfl⟩
theorem dl_1240 : dc code 1240 1241 .iadd 1 := ⟨by decide +kernel, rfl⟩
theorem dl_1241 : dc code 1241 1242 .iaload 1 := ⟨by decide +kernel, rfl⟩
theorem dl_1242 : dc code 1242 1245 (.invokevirtual 144) 3 := ⟨by decide +kernel, rfl⟩
theorem dl_1245 : db code 1245 1248 1596 (.if_icmp .eq (351)) 3 (351) := ⟨by decide +kernel, rfl, rfl⟩
theorem dl_1248 : dc code 1248 1249 (.iconst 0) 1 := ⟨by decide +kernel, rfl⟩
theorem dl_1249 : dc code 1249 1250 .ireturn 1 := ⟨by decide +kernel, rfl⟩
theorem dl_1250 : dc code 1250 1251 (.aload_n 1) 1 := ⟨by decide +kernel, rfl⟩
theorem dl_1251 : dc code 1251 1252 (.aload_n 0) 1 := ⟨by decide +kernel, rfl⟩
theorem dl_1252 : dc code 1252 1253 (.iload_n 3) 1 := ⟨by decide +kernel, rfl⟩
theorem dl_1253 : dc code 1253 1254 (.iconst 1) 1 := ⟨by decide +kernel, rfl⟩
theorem dl_1254 : dc code 1254 1255 .iadd 1 := ⟨by decide +kernel, rfl⟩
theorem dl_1255 : dc code 1255 1256 .iaload 1 := ⟨by decide +kernel, rfl⟩
theorem dl_1256 : dc code 1256 1259 (.invokevirtual 145) 3 := ⟨by decide +kernel, rfl⟩
theorem dl_1259 : dc code 1259 1260 (.aload_n 2) 1 := ⟨by decide +kernel, rfl⟩
theorem dl_1260 : dc code 1260 1261 (.aload_n 0) 1 := ⟨by decide +kernel, rfl⟩
theorem dl_1261 : dc code 1261 1262 (.iload_n 3) 1 := ⟨by decide +kernel, rfl⟩
theorem dl_1262 : dc code 1262 1263 (.iconst 1) 1 := ⟨by decide +kernel, rfl⟩
theorem dl_1263 : dc code 1263 1264 .iadd 1 := ⟨by decide +kernel, rfl⟩
theorem dl_1264 : dc code 1264 1265 .iaload 1 := ⟨by decide +kernel, rfl⟩
theorem dl_1265 : dc code 1265 1268 (.invokevirtual 148) 3 := ⟨by decide +kernel, rfl⟩
theorem dl_1268 : db code 1268 1271 1596 (.if_icmp .eq (328)) 3 (328) := ⟨by decide +kernel, rfl, rfl⟩
theorem dl_1271 : dc code 1271 1272 (.iconst 0) 1 := ⟨by decide +kernel, rfl⟩
theorem dl_1272 : dc code 1272 1273 .ireturn 1 := ⟨by decide +kernel, rfl⟩
theorem dl_1273 : dc code 1273 1274 (.aload_n 1) 1 := ⟨by decide +kernel, rfl⟩
theorem dl_1274 : dc code 1274 1275 (.aload_n 0) 1 := ⟨by decide +kernel, rfl⟩
theorem dl_1275 : dc code 1275 1276 (.iload_n 3) 1 := ⟨by decide +kernel, rfl⟩
theorem dl_1276 : dc code 1276 1277 (.iconst 1) 1 := ⟨by decide +kernel, rfl⟩
theorem dl_1277 : dc code 1277 1278 .iadd 1 := ⟨by decide +kernel, rfl⟩
theorem dl_1278 : dc code 1278 1279 .iaload 1 := ⟨by decide +kernel, rfl⟩
theorem dl_1279 : dc code 1279 1282 (.invokevirtual 149) 3 := ⟨by decide +kernel, rfl⟩
theorem dl_1282 : dc code 1282 1283 (.aload_n 2) 1 := ⟨by decide +kernel, rfl⟩
theorem dl_1283 : dc code 1283 1284 (.aload_n 0) 1 := ⟨by decide +kernel, rfl⟩
theorem dl_1284 : dc code 1284 1285 (.iload_n 3) 1 := ⟨by decide +kernel, rfl⟩
theorem dl_1285 : dc code 1285 1286 (.iconst 1) 1 := ⟨by decide +kernel, rfl⟩
theorem dl_1286 : dc code 1286 1287 .iadd 1 := ⟨by decide +kernel, rfl⟩
theorem dl_1287 : dc code 1287 1288 .iaload 1 := ⟨by decide +kernel, rfl⟩
theorem dl_1288 : dc code 1288 1291 (.invokevirtual 152) 3 := ⟨by decide +kernel, rfl⟩
theorem dl_1291 : db code 1291 1294 1596 (.if_icmp .eq (305)) 3 (305) := ⟨by decide +kernel, rfl, rfl⟩
theorem dl_1294 : dc code 1294 1295 (.iconst 0) 1 := ⟨by decide +kernel, rfl⟩
theorem dl_1295 : dc code 1295 1296 .ireturn 1 := ⟨by decide +kernel, rfl⟩
theorem dl_1296 : dc code 1296 1297 (.aload_n 1) 1 := ⟨by decide +kernel, rfl⟩
theorem dl_1297 : dc code 1297 1298 (.aload_n 0) 1 := ⟨by decide +kernel, rfl⟩
theorem dl_1298 : dc code 1298 1299 (.iload_n 3) 1 := ⟨by decide +kernel, rfl⟩
theorem dl_1299 : dc code 1299 1300 (.iconst 1) 1 := ⟨by decide +kernel, rfl⟩
theorem dl_1300 : dc code 1300 1301 .iadd 1 := ⟨by decide +kernel, rfl⟩
theorem dl_1301 : dc code 1301 1302 .iaload 1 := ⟨by decide +kernel, rfl⟩
theorem dl_1302 : dc code 1302 1303 (.aload_n 0) 1 := ⟨by decide +kernel, rfl⟩
theorem dl_1303 : dc code 1303 1304 (.iload_n 3) 1 := ⟨by decide +kernel, rfl⟩
theorem dl_1304 : dc code 1304 1305 (.iconst 2) 1 := ⟨by decide +kernel, rfl⟩
theorem dl_1305 : dc code 1305 1306 .iadd 1 := ⟨by decide +kernel, rfl⟩
theorem dl_1306 : dc code 1306 1307 .iaload 1 := ⟨by decide +kernel, rfl⟩
theorem dl_1307 : dc code 1307 1308 (.aload_n 0) 1 := ⟨by decide +kernel, rfl⟩
theorem dl_1308 : dc code 1308 1309 (.iload_n 3) 1 := ⟨by decide +kernel, rfl⟩
theorem dl_1309 : dc code 1309 1310 (.iconst 3) 1 := ⟨by decide +kernel, rfl⟩
theorem dl_1310 : dc code 1310 1311 .iadd 1 := ⟨by decide +kernel, rfl⟩
theorem dl_1311 : dc code 1311 1312 .iaload 1 := ⟨by decide +kernel, rfl⟩
theorem dl_1312 : dc code 1312 1313 (.aload_n 0) 1 := ⟨by decide +kernel, rfl⟩
theorem dl_1313 : dc code 1313 1314 (.iload_n 3) 1 := ⟨by decide +kernel, rfl⟩
theorem dl_1314 : dc code 1314 1315 (.iconst 4) 1 := ⟨by decide +kernel, rfl⟩
theorem dl_1315 : dc code 1315 1316 .iadd 1 := ⟨by decide +kernel, rfl⟩
theorem dl_1316 : dc code 1316 1317 .iaload 1 := ⟨by decide +kernel, rfl⟩
theorem dl_1317 : dc code 1317 1318 (.aload_n 0) 1 := ⟨by decide +kernel, rfl⟩
theorem dl_1318 : dc code 1318 1319 (.iload_n 3) 1 := ⟨by decide +kernel, rfl⟩
theorem dl_1319 : dc code 1319 1320 (.iconst 5) 1 := ⟨by decide +kernel, rfl⟩
theorem dl_1320 : dc code 1320 1321 .iadd 1 := ⟨by decide +kernel, rfl⟩
theorem dl_1321 : dc code 1321 1322 .iaload 1 := ⟨by decide +kernel, rfl⟩
theorem dl_1322 : dc code 1322 1325 (.invokevirtual 153) 3 := ⟨by decide +kernel, rfl⟩
theorem dl_1325 : dc code 1325 1326 (.aload_n 2) 1 := ⟨by decide +kernel, rfl⟩
theorem dl_1326 : dc code 1326 1327 (.aload_n 0) 1 := ⟨by decide +kernel, rfl⟩
theorem dl_1327 : dc code 1327 1328 (.iload_n 3) 1 := ⟨by decide +kernel, rfl⟩
theorem dl_1328 : dc code 1328 1329 (.iconst 1) 1 := ⟨by decide +kernel, rfl⟩
theorem dl_1329 : dc code 1329 1330 .iadd 1 := ⟨by decide +kernel, rfl⟩
theorem dl_1330 : dc code 1330 1331 .iaload 1 := ⟨by decide +kernel, rfl⟩
theorem dl_1331 : dc code 1331 1332 (.aload_n 0) 1 := ⟨by decide +kernel, rfl⟩
theorem dl_1332 : dc code 1332 1333 (.iload_n 3) 1 := ⟨by decide +kernel, rfl⟩
theorem dl_1333 : dc code 1333 1334 (.iconst 2) 1 := ⟨by decide +kernel, rfl⟩
theorem dl_1334 : dc code 1334 1335 .iadd 1 := ⟨by decide +kernel, rfl⟩
theorem dl_1335 : dc code 1335 1336 .iaload 1 := ⟨by decide +kernel, rfl⟩
theorem dl_1336 : dc code 1336 1337 (.aload_n 0) 1 := ⟨by decide +kernel, rfl⟩
theorem dl_1337 : dc code 1337 1338 (.iload_n 3) 1 := ⟨by decide +kernel, rfl⟩
theorem dl_1338 : dc code 1338 1339 (.iconst 3) 1 := ⟨by decide +kernel, rfl⟩
theorem dl_1339 : dc code 1339 1340 .iadd 1 := ⟨by decide +kernel, rfl⟩
theorem dl_1340 : dc code 1340 1341 .iaload 1 := ⟨by decide +kernel, rfl⟩
theorem dl_1341 : dc code 1341 1342 (.aload_n 0) 1 := ⟨by decide +kernel, rfl⟩
theorem dl_1342 : dc code 1342 1343 (.iload_n 3) 1 := ⟨by decide +kernel, rfl⟩
theorem dl_1343 : dc code 1343 1344 (.iconst 4) 1 := ⟨by decide +kernel, rfl⟩
theorem dl_1344 : dc code 1344 1345 .iadd 1 := ⟨by decide +kernel, rfl⟩
theorem dl_1345 : dc code 1345 1346 .iaload 1 := ⟨by decide +kernel, rfl⟩
theorem dl_1346 : dc code 1346 1347 (.aload_n 0) 1 := ⟨by decide +kernel, rfl⟩
theorem dl_1347 : dc code 1347 1348 (.iload_n 3) 1 := ⟨by decide +kernel, rfl⟩
theorem dl_1348 : dc code 1348 1349 (.iconst 5) 1 := ⟨by decide +kernel, rfl⟩
theorem dl_1349 : dc code 1349 1350 .iadd 1 := ⟨by decide +kernel, rfl⟩
theorem dl_1350 : dc code 1350 1351 .iaload 1 := ⟨by decide +kernel, rfl⟩
theorem dl_1351 : dc code 1351 1354 (.invokevirtual 157) 3 := ⟨by decide +kernel, rfl⟩
theorem dl_1354 : db code 1354 1357 1596 (.if_icmp .eq (242)) 3 (242) := ⟨by decide +kernel, rfl, rfl⟩
theorem dl_1357 : dc code 1357 1358 (.iconst 0) 1 := ⟨by decide +kernel, rfl⟩
theorem dl_1358 : dc code 1358 1359 .ireturn 1 := ⟨by decide +kernel, rfl⟩
theorem dl_1359 : dc code 1359 1360 (.aload_n 1) 1 := ⟨by decide +kernel, rfl⟩
theorem dl_1360 : dc code 1360 1361 (.aload_n 0) 1 := ⟨by decide +kernel, rfl⟩
theorem dl_1361 : dc code 1361 1362 (.iload_n 3) 1 := ⟨by decide +kernel, rfl⟩
theorem dl_1362 : dc code 1362 1363 (.iconst 1) 1 := ⟨by decide +kernel, rfl⟩
theorem dl_1363 : dc code 1363 1364 .iadd 1 := ⟨by decide +kernel, rfl⟩
theorem dl_1364 : dc code 1364 1365 .iaload 1 := ⟨by decide +kernel, rfl⟩
theorem dl_1365 : dc code 1365 1366 (.aload_n 0) 1 := ⟨by decide +kernel, rfl⟩
theorem dl_1366 : dc code 1366 1367 (.iload_n 3) 1 := ⟨by decide +kernel, rfl⟩
theorem dl_1367 : dc code 1367 1368 (.iconst 2) 1 := ⟨by decide +kernel, rfl⟩
theorem dl_1368 : dc code 1368 1369 .iadd 1 := ⟨by decide +kernel, rfl⟩
theorem dl_1369 : dc code 1369 1370 .iaload 1 := ⟨by decide +kernel, rfl⟩
theorem dl_1370 : dc code 1370 1371 (.aload_n 0) 1 := ⟨by decide +kernel, rfl⟩
theorem dl_1371 : dc code 1371 1372 (.iload_n 3) 1 := ⟨by decide +kernel, rfl⟩
theorem dl_1372 : dc code 1372 1373 (.iconst 3) 1 := ⟨by decide +kernel, rfl⟩
theorem dl_1373 : dc code 1373 1374 .iadd 1 := ⟨by decide +kernel, rfl⟩
theorem dl_1374 : dc code 1374 1375 .iaload 1 := ⟨by decide +kernel, rfl⟩
theorem dl_1375 : dc code 1375 1378 (.invokevirtual 158) 3 := ⟨by decide +kernel, rfl⟩
theorem dl_1378 : dc code 1378 1379 (.aload_n 2) 1 := ⟨by decide +kernel, rfl⟩
theorem dl_1379 : dc code 1379 1380 (.aload_n 0) 1 := ⟨by decide +kernel, rfl⟩
theorem dl_1380 : dc code 1380 1381 (.iload_n 3) 1 := ⟨by decide +kernel, rfl⟩
theorem dl_1381 : dc code 1381 1382 (.iconst 1) 1 := ⟨by decide +kernel, rfl⟩
theorem dl_1382 : dc code 1382 1383 .iadd 1 := ⟨by decide +kernel, rfl⟩
theorem dl_1383 : dc code 1383 1384 .iaload 1 := ⟨by decide +kernel, rfl⟩
theorem dl_1384 : dc code 1384 1385 (.aload_n 0) 1 := ⟨by decide +kernel, rfl⟩
theorem dl_1385 : dc code 1385 1386 (.iload_n 3) 1 := ⟨by decide +kernel, rfl⟩
theorem dl_1386 : dc code 1386 1387 (.iconst 2) 1 := ⟨by decide +kernel, rfl⟩
theorem dl_1387 : dc code 1387 1388 .iadd 1 := ⟨by decide +kernel, rfl⟩
theorem dl_1388 : dc code 1388 1389 .iaload 1 := ⟨by decide +kernel, rfl⟩
theorem dl_1389 : dc code 1389 1390 (.aload_n 0) 1 := ⟨by decide +kernel, rfl⟩
theorem dl_1390 : dc code 1390 1391 (.iload_n 3) 1 := ⟨by decide +kernel, rfl⟩
theorem dl_1391 : dc code 1391 1392 (.iconst 3) 1 := ⟨by decide +kernel, rfl⟩
theorem dl_1392 : dc code 1392 1393 .iadd 1 := ⟨by decide +kernel, rfl⟩
theorem dl_1393 : dc code 1393 1394 .iaload 1 := ⟨by decide +kernel, rfl⟩
theorem dl_1394 : dc code 1394 1397 (.invokevirtual 161) 3 := ⟨by decide +kernel, rfl⟩
theorem dl_1397 : db code 1397 1400 1596 (.if_icmp .eq (199)) 3 (199) := ⟨by decide +kernel, rfl, rfl⟩
theorem dl_1400 : dc code 1400 1401 (.iconst 0) 1 := ⟨by decide +kernel, rfl⟩
theorem dl_1401 : dc code 1401 1402 .ireturn 1 := ⟨by decide +kernel, rfl⟩
theorem dl_1402 : dc code 1402 1403 (.aload_n 1) 1 := ⟨by decide +kernel, rfl⟩
theorem dl_1403 : dc code 1403 1404 (.aload_n 0) 1 := ⟨by decide +kernel, rfl⟩
theorem dl_1404 : dc code 1404 1405 (.iload_n 3) 1 := ⟨by decide +kernel, rfl⟩
theorem dl_1405 : dc code 1405 1406 (.iconst 1) 1 := ⟨by decide +kernel, rfl⟩
theorem dl_1406 : dc code 1406 1407 .iadd 1 := ⟨by decide +kernel, rfl⟩
theorem dl_1407 : dc code 1407 1408 .iaload 1 := ⟨by decide +kernel, rfl⟩
theorem dl_1408 : dc code 1408 1409 (.aload_n 0) 1 := ⟨by decide +kernel, rfl⟩
theorem dl_1409 : dc code 1409 1410 (.iload_n 3) 1 := ⟨by decide +kernel, rfl⟩
theorem dl_1410 : dc code 1410 1411 (.iconst 2) 1 := ⟨by decide +kernel, rfl⟩
theorem dl_1411 : dc code 1411 1412 .iadd 1 := ⟨by decide +kernel, rfl⟩
theorem dl_1412 : dc code 1412 1413 .iaload 1 := ⟨by decide +kernel, rfl⟩
theorem dl_1413 : dc code 1413 1416 (.invokevirtual 162) 3 := ⟨by decide +kernel, rfl⟩
theorem dl_1416 : dc code 1416 1417 (.aload_n 2) 1 := ⟨by decide +kernel, rfl⟩
theorem dl_1417 : dc code 1417 1418 (.aload_n 0) 1 := ⟨by decide +kernel, rfl⟩
theorem dl_1418 : dc code 1418 1419 (.iload_n 3) 1 := ⟨by decide +kernel, rfl⟩
theorem dl_1419 : dc code 1419 1420 (.iconst 1) 1 := ⟨by decide +kernel, rfl⟩
theorem dl_1420 : dc code 1420 1421 .iadd 1 := ⟨by decide +kernel, rfl⟩
theorem dl_1421 : dc code 1421 1422 .iaload 1 := ⟨by decide +kernel, rfl⟩
theorem dl_1422 : dc code 1422 1423 (.aload_n 0) 1 := ⟨by decide +kernel, rfl⟩
theorem dl_1423 : dc code 1423 1424 (.iload_n 3) 1 := ⟨by decide +kernel, rfl⟩
theorem dl_1424 : dc code 1424 1425 (.iconst 2) 1 := ⟨by decide +kernel, rfl⟩
theorem dl_1425 : dc code 1425 1426 .iadd 1 := ⟨by decide +kernel, rfl⟩
theorem dl_1426 : dc code 1426 1427 .iaload 1 := ⟨by decide +kernel, rfl⟩
theorem dl_1427 : dc code 1427 1430 (.invokevirtual 165) 3 := ⟨by decide +kernel, rfl⟩
theorem dl_1430 : db code 1430 1433 1596 (.if_icmp .eq (166)) 3 (166) := ⟨by decide +kernel, rfl, rfl⟩
theorem dl_1433 : dc code 1433 1434 (.iconst 0) 1 := ⟨by decide +kernel, rfl⟩
theorem dl_1434 : dc code 1434 1435 .ireturn 1 := ⟨by decide +kernel, rfl⟩
theorem dl_1435 : dc code 1435 1436 (.aload_n 1) 1 := ⟨by decide +kernel, rfl⟩
theorem dl_1436 : dc code 1436 1437 (.aload_n 0) 1 := ⟨by decide +kernel, rfl⟩
theorem dl_1437 : dc code 1437 1438 (.iload_n 3) 1 := ⟨by decide +kernel, rfl⟩
theorem dl_1438 : dc code 1438 1439 (.iconst 1) 1 := ⟨by decide +kernel, rfl⟩
theorem dl_1439 : dc code 1439 1440 .iadd 1 := ⟨by decide +kernel, rfl⟩
theorem dl_1440 : dc code 1440 1441 .iaload 1 := ⟨by decide +kernel, rfl⟩
theorem dl_1441 : dc code 1441 1442 (.aload_n 0) 1 := ⟨by decide +kernel, rfl⟩
theorem dl_1442 : dc code 1442 1443 (.iload_n 3) 1 := ⟨by decide +kernel, rfl⟩
theorem dl_1443 : dc code 1443 1444 (.iconst 2) 1 := ⟨by decide +kernel, rfl⟩
theorem dl_1444 : dc code 1444 1445 .iadd 1 := ⟨by decide +kernel, rfl⟩
theorem dl_1445 : dc code 1445 1446 .iaload 1 := ⟨by decide +kernel, rfl⟩
theorem dl_1446 : dc code 1446 1449 (.invokevirtual 166) 3 := ⟨by decide +kernel, rfl⟩
theorem dl_1449 : dc code 1449 1450 (.aload_n 2) 1 := ⟨by decide +kernel, rfl⟩
theorem dl_1450 : dc code 1450 1451 (.aload_n 0) 1 := ⟨by decide +kernel, rfl⟩
theorem dl_1451 : dc code 1451 1452 (.iload_n 3) 1 := ⟨by decide +kernel, rfl⟩
theorem dl_1452 : dc code 1452 1453 (.iconst 1) 1 := ⟨by decide +kernel, rfl⟩
theorem dl_1453 : dc code 1453 1454 .iadd 1 := ⟨by decide +kernel, rfl⟩
theorem dl_1454 : dc code 1454 1455 .iaload 1 := ⟨by decide +kernel, rfl⟩
theorem dl_1455 : dc code 1455 1456 (.aload_n 0) 1 := ⟨by decide +kernel, rfl⟩
theorem dl_1456 : dc code 1456 1457 (.iload_n 3) 1 := ⟨by decide +kernel, rfl⟩
theorem dl_1457 : dc code 1457 1458 (.iconst 2) 1 := ⟨by decide +kernel, rfl⟩
theorem dl_1458 : dc code 1458 1459 .iadd 1 := ⟨by decide +kernel, rfl⟩
theorem dl_1459 : dc code 1459 1460 .iaload 1 := ⟨by decide +kernel, rfl⟩
theorem dl_1460 : dc code 1460 1463 (.invokevirtual 169) 3 := ⟨by decide +kernel, rfl⟩
theorem dl_1463 : db code 1463 1466 1596 (.if_icmp .eq (133)) 3 (133) := ⟨by decide +kernel, rfl, rfl⟩
theorem dl_1466 : dc code 1466 1467 (.iconst 0) 1 := ⟨by decide +kernel, rfl⟩
theorem dl_1467 : dc code 1467 1468 .ireturn 1 := ⟨by decide +kernel, rfl⟩
theorem dl_1468 : dc code 1468 1469 (.aload_n 1) 1 := ⟨by decide +kernel, rfl⟩
theorem dl_1469 : dc code 1469 1470 (.aload_n 0) 1 := ⟨by decide +kernel, rfl⟩
theorem dl_1470 : dc code 1470 1471 (.iload_n 3) 1 := ⟨by decide +kernel, rfl⟩
theorem dl_1471 : dc code 1471 1472 (.iconst 1) 1 := ⟨by decide +kernel, rfl⟩
theorem dl_1472 : dc code 1472 1473 .iadd 1 := ⟨by decide +kernel, rfl⟩
theorem dl_1473 : dc code 1473 1474 .iaload 1 := ⟨by decide +kernel, rfl⟩
theorem dl_1474 : dc code 1474 1475 (.aload_n 0) 1 := ⟨by decide +kernel, rfl⟩
theorem dl_1475 : dc code 1475 1476 (.iload_n 3) 1 := ⟨by decide +kernel, rfl⟩
theorem dl_1476 : dc code 1476 1477 (.iconst 2) 1 := ⟨by decide +kernel, rfl⟩
theorem dl_1477 : dc code 1477 1478 .iadd 1 := ⟨by decide +kernel, rfl⟩
theorem dl_1478 : dc code 1478 1479 .iaload 1 := ⟨by decide +kernel, rfl⟩
theorem dl_1479 : dc code 1479 1482 (.invokevirtual 170) 3 := ⟨by decide +kernel, rfl⟩
theorem dl_1482 : dc code 1482 1483 (.aload_n 2) 1 := ⟨by decide +kernel, rfl⟩
theorem dl_1483 : dc code 1483 1484 (.aload_n 0) 1 := ⟨by decide +kernel, rfl⟩
theorem dl_1484 : dc code 1484 1485 (.iload_n 3) 1 := ⟨by decide +kernel, rfl⟩
theorem dl_1485 : dc code 1485 1486 (.iconst 1) 1 := ⟨by decide +kernel, rfl⟩
theorem dl_1486 : dc code 1486 1487 .iadd 1 := ⟨by decide +kernel, rfl⟩
theorem dl_1487 : dc code 1487 1488 .iaload 1 := ⟨by decide +kernel, rfl⟩
theorem dl_1488 : dc code 1488 1489 (.aload_n 0) 1 := ⟨by decide +kernel, rfl⟩
theorem dl_1489 : dc code 1489 1490 (.iload_n 3) 1 := ⟨by decide +kernel, rfl⟩
theorem dl_1490 : dc code 1490 1491 (.iconst 2) 1 := ⟨by decide +kernel, rfl⟩
theorem dl_1491 : dc code 1491 1492 .iadd 1 := ⟨by decide +kernel, rfl⟩
theorem dl_1492 : dc code 1492 1493 .iaload 1 := ⟨by decide +kernel, rfl⟩
theorem dl_1493 : dc code 1493 1496 (.invokevirtual 173) 3 := ⟨by decide +kernel, rfl⟩
theorem dl_1496 : db code 1496 1499 1596 (.if_icmp .eq (100)) 3 (100) := ⟨by decide +kernel, rfl, rfl⟩
theorem dl_1499 : dc code 1499 1500 (.iconst 0) 1 := ⟨by decide +kernel, rfl⟩
theorem dl_1500 : dc code 1500 1501 .ireturn 1 := ⟨by decide +kernel, rfl⟩
theorem dl_1501 : dc code 1501 1502 (.aload_n 1) 1 := ⟨by decide +kernel, rfl⟩
theorem dl_1502 : dc code 1502 1503 (.aload_n 0) 1 := ⟨by decide +kernel, rfl⟩
theorem dl_1503 : dc code 1503 1504 (.iload_n 3) 1 := ⟨by decide +kernel, rfl⟩
theorem dl_1504 : dc code 1504 1505 (.iconst 1) 1 := ⟨by decide +kernel, rfl⟩
theorem dl_1505 : dc code 1505 1506 .iadd 1 := ⟨by decide +kernel, rfl⟩
theorem dl_1506 : dc code 1506 1507 .iaload 1 := ⟨by decide +kernel, rfl⟩
theorem dl_1507 : dc code 1507 1510 (.invokevirtual 174) 3 := ⟨by decide +kernel, rfl⟩
theorem dl_1510 : dc code 1510 1511 (.aload_n 2) 1 := ⟨by decide +kernel, rfl⟩
theorem dl_1511 : dc code 1511 1512 (.aload_n 0) 1 := ⟨by decide +kernel, rfl⟩
theorem dl_1512 : dc code 1512 1513 (.iload_n 3) 1 := ⟨by decide +kernel, rfl⟩
theorem dl_1513 : dc code 1513 1514 (.iconst 1) 1 := ⟨by decide +kernel, rfl⟩
theorem dl_1514 : dc code 1514 1515 .iadd 1 := ⟨by decide +kernel, rfl⟩
theorem dl_1515 : dc code 1515 1516 .iaload 1 := ⟨by decide +kernel, rfl⟩
theorem dl_1516 : dc code 1516 1519 (.invokevirtual 177) 3 := ⟨by decide +kernel, rfl⟩
theorem dl_1519 : db code 1519 1522 1596 (.if_icmp .eq (77)) 3 (77) := ⟨by decide +kernel, rfl, rfl⟩
theorem dl_1522 : dc code 1522 1523 (.iconst 0) 1 := ⟨by decide +kernel, rfl⟩
theorem dl_1523 : dc code 1523 1524 .ireturn 1 := ⟨by decide +kernel, rfl⟩
theorem dl_1524 : dc code 1524 1525 (.aload_n 1) 1 := ⟨by decide +kernel, rfl⟩
theorem dl_1525 : dc code 1525 1526 (.aload_n 0) 1 := ⟨by decide +kernel, rfl⟩
theorem dl_1526 : dc code 1526 1527 (.iload_n 3) 1 := ⟨by decide +kernel, rfl⟩
theorem dl_1527 : dc code 1527 1528 (.iconst 1) 1 := ⟨by decide +kernel, rfl⟩
theorem dl_1528 : dc code 1528 1529 .iadd 1 := ⟨by decide +kernel, rfl⟩
theorem dl_1529 : dc code 1529 1530 .iaload 1 := ⟨by decide +kernel, rfl⟩
theorem dl_1530 : dc code 1530 1533 (.invokevirtual 178) 3 := ⟨by decide +kernel, rfl⟩
theorem dl_1533 : dc code 1533 1534 (.aload_n 2) 1 := ⟨by decide +kernel, rfl⟩
theorem dl_1534 : dc code 1534 1535 (.aload_n 0) 1 := ⟨by decide +kernel, rfl⟩
theorem dl_1535 : dc code 1535 1536 (.iload_n 3) 1 := ⟨by decide +kernel, rfl⟩
theorem dl_1536 : dc code 1536 1537 (.iconst 1) 1 := ⟨by decide +kernel, rfl⟩
theorem dl_1537 : dc code 1537 1538 .iadd 1 := ⟨by decide +kernel, rfl⟩
theorem dl_1538 : dc code 1538 1539 .iaload 1 := ⟨by decide +kernel, rfl⟩
theorem dl_1539 : dc code 1539 1542 (.invokevirtual 181) 3 := ⟨by decide +kernel, rfl⟩
theorem dl_1542 : db code 1542 1545 1596 (.if_icmp .eq (54)) 3 (54) := ⟨by decide +kernel, rfl, rfl⟩
theorem dl_1545 : dc code 1545 1546 (.iconst 0) 1 := ⟨by decide +kernel, rfl⟩
theorem dl_1546 : dc code 1546 1547 .ireturn 1 := ⟨by decide +kernel, rfl⟩
theorem dl_1547 : dc code 1547 1548 (.aload_n 1) 1 := ⟨by decide +kernel, rfl⟩
theorem dl_1548 : dc code 1548 1551 (.invokevirtual 182) 3 := ⟨by decide +kernel, rfl⟩
theorem dl_1551 : dc code 1551 1552 (.aload_n 2) 1 := ⟨by decide +kernel, rfl⟩
theorem dl_1552 : dc code 1552 1555 (.invokevirtual 185) 3 := ⟨by decide +kernel, rfl⟩
theorem dl_1555 : db code 1555 1558 1596 (.if_icmp .eq (41)) 3 (41) := ⟨by decide +kernel, rfl, rfl⟩
theorem dl_1558 : dc code 1558 1559 (.iconst 0) 1 := ⟨by decide +kernel, rfl⟩
theorem dl_1559 : dc code 1559 1560 .ireturn 1 := ⟨by decide +kernel, rfl⟩
theorem dl_1560 : dc code 1560 1561 (.aload_n 1) 1 := ⟨by decide +kernel, rfl⟩
theorem dl_1561 : dc code 1561 1564 (.invokevirtual 186) 3 := ⟨by decide +kernel, rfl⟩
theorem dl_1564 : dc code 1564 1565 (.aload_n 2) 1 := ⟨by decide +kernel, rfl⟩
theorem dl_1565 : dc code 1565 1568 (.invokevirtual 189) 3 := ⟨by decide +kernel, rfl⟩
theorem dl_1568 : db code 1568 1571 1596 (.if_icmp .eq (28)) 3 (28) := ⟨by decide +kernel, rfl, rfl⟩
theorem dl_1571 : dc code 1571 1572 (.iconst 0) 1 := ⟨by decide +kernel, rfl⟩
theorem dl_1572 : dc code 1572 1573 .ireturn 1 := ⟨by decide +kernel, rfl⟩
theorem dl_1573 : dc code 1573 1574 (.aload_n 1) 1 := ⟨by decide +kernel, rfl⟩
theorem dl_1574 : dc code 1574 1575 (.aload_n 0) 1 := ⟨by decide +kernel, rfl⟩
theorem dl_1575 : dc code 1575 1576 (.iload_n 3) 1 := ⟨by decide +kernel, rfl⟩
theorem dl_1576 : dc code 1576 1577 (.iconst 1) 1 := ⟨by decide +kernel, rfl⟩
theorem dl_1577 : dc code 1577 1578 .iadd 1 := ⟨by decide +kernel, rfl⟩
theorem dl_1578 : dc code 1578 1579 .iaload 1 := ⟨by decide +kernel, rfl⟩
theorem dl_1579 : dc code 1579 1582 (.invokevirtual 190) 3 := ⟨by decide +kernel, rfl⟩
theorem dl_1582 : dc code 1582 1583 (.aload_n 2) 1 := ⟨by decide +kernel, rfl⟩
theorem dl_1583 : dc code 1583 1584 (.aload_n 0) 1 := ⟨by decide +kernel, rfl⟩
theorem dl_1584 : dc code 1584 1585 (.iload_n 3) 1 := ⟨by decide +kernel, rfl⟩
theorem dl_1585 : dc code 1585 1586 (.iconst 1) 1 := ⟨by decide +kernel, rfl⟩
theorem dl_1586 : dc code 1586 1587 .iadd 1 := ⟨by decide +kernel, rfl⟩
theorem dl_1587 : dc code 1587 1588 .iaload 1 := ⟨by decide +kernel, rfl⟩
theorem dl_1588 : dc code 1588 1591 (.invokevirtual 193) 3 := ⟨by decide +kernel, rfl⟩
theorem dl_1591 : db code 1591 1594 1596 (.if_icmp .eq (5)) 3 (5) := ⟨by decide +kernel, rfl, rfl⟩
theorem dl_1594 : dc code 1594 1595 (.iconst 0) 1 := ⟨by decide +kernel, rfl⟩
theorem dl_1595 : dc code 1595 1596 .ireturn 1 := ⟨by decide +kernel, rfl⟩
theorem dl_1596 : dc code 1596 1599 (.iinc 3 6) 3 := ⟨by decide +kernel, rfl⟩
theorem dl_1599 : db code 1599 1602 18 (.goto (-1581)) 3 (-1581) := ⟨by decide +kernel, rfl, rfl⟩
theorem dl_1602 : dc code 1602 1603 (.iconst 1) 1 := ⟨by decide +kernel, rfl⟩
theorem dl_1603 : dc code 1603 1604 .ireturn 1 := ⟨by decide +kernel, rfl⟩
section LW
variable {κ : KX} {own : String} {b0 : ByteArray} {d : Nat} {n pc q : Nat} {L : List (Option Value)} {st : List Value} {h : Hp}
theorem adr_s {g : CX} : adr g 2150 = cxV g 50 := rfl
theorem x_sld {b N : Nat} {xs : Nat → Int32} {i : Int32} (j : Nat) (G : Gc κ own b0 d) (hd : dc b0 pc q .iaload 1) (hb : cxV (kg κ) 50 = b) (hX : va_X b N xs (ks κ) (ks κ).heap) (hz : cxb (kg κ) = (ks κ).heap.size) (hbl : b < (ks κ).heap.size) (hi : i = nI j) (hj : j < N ∧ N < 2 ^ 31) (kk : X κ n q L (.int (xs j) :: st) h) : X κ n pc L (.int i :: .ref 2150 :: st) h := by
  obtain ⟨hd, rfl⟩ := hd
  intro H locs ls hz0 hP hS hl
  rw [show (Value.int i :: Value.ref 2150 :: st).map (vV (kg κ)) = .int i :: .ref b :: st.map (vV (kg κ)) by show Value.int i :: Value.ref (cxV (kg κ) 50) :: _ = _; rw [hb]]
  refine va_sld G.exec G.code hX hbl (by show ¬ cxb (kg κ) ≤ b; rw [hz]; omega) hS (by rw [hi]; exact nI_in hj.1 hj.2) hd ?_
  rw [hi, nI_clamp (by omega)]
  exact kk H locs ls hz0 hP hS hl
theorem x_slen {b N : Nat} {xs : Nat → Int32} (G : Gc κ own b0 d) (hd : dc b0 pc q .arraylength 1) (hb : cxV (kg κ) 50 = b) (hX : va_X b N xs (ks κ) (ks κ).heap) (hz : cxb (kg κ) = (ks κ).heap.size) (hbl : b < (ks κ).heap.size) (kk : X κ n q L (.int (nI N) :: st) h) : X κ n pc L (.ref 2150 :: st) h := by
  obtain ⟨hd, rfl⟩ := hd
  intro H locs ls hz0 hP hS hl
  rw [show (Value.ref 2150 :: st).map (vV (kg κ)) = .ref b :: st.map (vV (kg κ)) by show Value.ref (cxV (kg κ) 50) :: _ = _; rw [hb]]
  exact va_slen G.exec G.code hX hbl (by show ¬ cxb (kg κ) ≤ b; rw [hz]; omega) hS hd (kk H locs ls hz0 hP hS hl)
end LW
/-- a walk of the law, over its script -/
def LWk (κ : KX) (N : Nat) (xs : Nat → Int32) : Prop := Gc κ R_law code 300 ∧ kx κ = NC ∧ kn κ = 4 ∧ va_X (cxV (kg κ) 50) N xs (ks κ) (ks κ).heap ∧ cxb (kg κ) = (ks κ).heap.size ∧ cxV (kg κ) 50 < (ks κ).heap.size ∧ N ≤ 3072
abbrev LL (i : Nat) : List (Option Value) := [some (.ref 2150), some (.ref 0), some (.ref 113), some (.int (nI i))]
theorem lc_0 {κ : KX} {N : Nat} {xs : Nat → Int32} (w : LWk κ N xs) (i : Nat) (hi : i + 6 ≤ N) {σ : Sg} (h : LI σ) (kk : ∀ σ2, LI σ2 → X κ NC 1596 (LL i) [] (hv σ2)) : X κ NC 224 (LL i) [] (hv σ) := by
  obtain ⟨G, hx, hk0, hX, hz, hbl, hN⟩ := w
  obtain ⟨P, hA, hB⟩ := q_person (g := kg κ) h (xs (i + 1)) (xs (i + 2)) (xs (i + 3))
  refine x_aload1 G dl_224 ?_
  refine x_aload0 G dl_225 ?_
  refine x_iload3 G dl_226 ?_
  refine x_iconst (v := nI 1) G dl_227 rfl ?_
  refine x_iadd G dl_228 ?_
  refine x_sld (i + 1) G dl_229 rfl hX hz hbl (nI_add i 1) ⟨by omega, by omega⟩ ?_
  refine x_aload0 G dl_230 ?_
  refine x_iload3 G dl_231 ?_
  refine x_iconst (v := nI 2) G dl_232 rfl ?_
  refine x_iadd G dl_233 ?_
  refine x_sld (i + 2) G dl_234 rfl hX hz hbl (nI_add i 2) ⟨by omega, by omega⟩ ?_
  refine x_aload0 G dl_235 ?_
  refine x_iload3 G dl_236 ?_
  refine x_iconst (v := nI 3) G dl_237 rfl ?_
  refine x_iadd G dl_238 ?_
  refine x_sld (i + 3) G dl_239 rfl hX hz hbl (nI_add i 3) ⟨by omega, by omega⟩ ?_
  refine m_callV_pr hA G dl_240 lk_LAW_13 rfl ⟨by decide, rfl⟩ (by decide) (by decide) rfl (Nat.le_of_ble_eq_true rfl) hx (fun v σ1 hv1 => ?_)
  refine x_aload2 G dl_243 ?_
  refine x_aload0 G dl_244 ?_
  refine x_iload3 G dl_245 ?_
  refine x_iconst (v := nI 1) G dl_246 rfl ?_
  refine x_iadd G dl_247 ?_
  refine x_sld (i + 1) G dl_248 rfl hX hz hbl (nI_add i 1) ⟨by omega, by omega⟩ ?_
  refine x_aload0 G dl_249 ?_
  refine x_iload3 G dl_250 ?_
  refine x_iconst (v := nI 2) G dl_251 rfl ?_
  refine x_iadd G dl_252 ?_
  refine x_sld (i + 2) G dl_253 rfl hX hz hbl (nI_add i 2) ⟨by omega, by omega⟩ ?_
  refine x_aload0 G dl_254 ?_
  refine x_iload3 G dl_255 ?_
  refine x_iconst (v := nI 3) G dl_256 rfl ?_
  refine x_iadd G dl_257 ?_
  refine x_sld (i + 3) G dl_258 rfl hX hz hbl (nI_add i 3) ⟨by omega, by omega⟩ ?_
  refine m_callV_pr (hB v σ1 hv1) G dl_259 lk_LAW_17 rfl ⟨by decide, rfl⟩ (by decide) (by decide) rfl (Nat.le_of_ble_eq_true rfl) hx (fun v2 σ2 hv2 => ?_)
  refine x_icmp_eq G dl_262 (fun _ => kk σ2 hv2.2) (fun c => absurd hv2.1.symm c)
theorem lc_1 {κ : KX} {N : Nat} {xs : Nat → Int32} (w : LWk κ N xs) (i : Nat) (hi : i + 6 ≤ N) {σ : Sg} (h : LI σ) (kk : ∀ σ2, LI σ2 → X κ NC 1596 (LL i) [] (hv σ2)) : X κ NC 267 (LL i) [] (hv σ) := by
  obtain ⟨G, hx, hk0, hX, hz, hbl, hN⟩ := w
  obtain ⟨P, hA, hB⟩ := q_told (g := kg κ) h (xs (i + 1)) (xs (i + 2))
  refine x_aload1 G dl_267 ?_
  refine x_aload0 G dl_268 ?_
  refine x_iload3 G dl_269 ?_
  refine x_iconst (v := nI 1) G dl_270 rfl ?_
  refine x_iadd G dl_271 ?_
  refine x_sld (i + 1) G dl_272 rfl hX hz hbl (nI_add i 1) ⟨by omega, by omega⟩ ?_
  refine x_aload0 G dl_273 ?_
  refine x_iload3 G dl_274 ?_
  refine x_iconst (v := nI 2) G dl_275 rfl ?_
  refine x_iadd G dl_276 ?_
  refine x_sld (i + 2) G dl_277 rfl hX hz hbl (nI_add i 2) ⟨by omega, by omega⟩ ?_
  refine m_callV_pr hA G dl_278 lk_LAW_18 rfl ⟨by decide, rfl⟩ (by decide) (by decide) rfl (Nat.le_of_ble_eq_true rfl) hx (fun v σ1 hv1 => ?_)
  refine x_aload2 G dl_281 ?_
  refine x_aload0 G dl_282 ?_
  refine x_iload3 G dl_283 ?_
  refine x_iconst (v := nI 1) G dl_284 rfl ?_
  refine x_iadd G dl_285 ?_
  refine x_sld (i + 1) G dl_286 rfl hX hz hbl (nI_add i 1) ⟨by omega, by omega⟩ ?_
  refine x_aload0 G dl_287 ?_
  refine x_iload3 G dl_288 ?_
  refine x_iconst (v := nI 2) G dl_289 rfl ?_
  refine x_iadd G dl_290 ?_
  refine x_sld (i + 2) G dl_291 rfl hX hz hbl (nI_add i 2) ⟨by omega, by omega⟩ ?_
  refine m_callV_pr (hB v σ1 hv1) G dl_292 lk_LAW_22 rfl ⟨by decide, rfl⟩ (by decide) (by decide) rfl (Nat.le_of_ble_eq_true rfl) hx (fun v2 σ2 hv2 => ?_)
  refine x_icmp_eq G dl_295 (fun _ => kk σ2 hv2.2) (fun c => absurd hv2.1.symm c)
theorem lc_2 {κ : KX} {N : Nat} {xs : Nat → Int32} (w : LWk κ N xs) (i : Nat) (hi : i + 6 ≤ N) {σ : Sg} (h : LI σ) (kk : ∀ σ2, LI σ2 → X κ NC 1596 (LL i) [] (hv σ2)) : X κ NC 300 (LL i) [] (hv σ) := by
  obtain ⟨G, hx, hk0, hX, hz, hbl, hN⟩ := w
  obtain ⟨P, hA, hB⟩ := q_walk (g := kg κ) h (xs (i + 1)) (xs (i + 2)) (xs (i + 3))
  refine x_aload1 G dl_300 ?_
  refine x_aload0 G dl_301 ?_
  refine x_iload3 G dl_302 ?_
  refine x_iconst (v := nI 1) G dl_303 rfl ?_
  refine x_iadd G dl_304 ?_
  refine x_sld (i + 1) G dl_305 rfl hX hz hbl (nI_add i 1) ⟨by omega, by omega⟩ ?_
  refine x_aload0 G dl_306 ?_
  refine x_iload3 G dl_307 ?_
  refine x_iconst (v := nI 2) G dl_308 rfl ?_
  refine x_iadd G dl_309 ?_
  refine x_sld (i + 2) G dl_310 rfl hX hz hbl (nI_add i 2) ⟨by omega, by omega⟩ ?_
  refine x_aload0 G dl_311 ?_
  refine x_iload3 G dl_312 ?_
  refine x_iconst (v := nI 3) G dl_313 rfl ?_
  refine x_iadd G dl_314 ?_
  refine x_sld (i + 3) G dl_315 rfl hX hz hbl (nI_add i 3) ⟨by omega, by omega⟩ ?_
  refine m_callV_pr hA G dl_316 lk_LAW_23 rfl ⟨by decide, rfl⟩ (by decide) (by decide) rfl (Nat.le_of_ble_eq_true rfl) hx (fun v σ1 hv1 => ?_)
  refine x_aload2 G dl_319 ?_
  refine x_aload0 G dl_320 ?_
  refine x_iload3 G dl_321 ?_
  refine x_iconst (v := nI 1) G dl_322 rfl ?_
  refine x_iadd G dl_323 ?_
  refine x_sld (i + 1) G dl_324 rfl hX hz hbl (nI_add i 1) ⟨by omega, by omega⟩ ?_
  refine x_aload0 G dl_325 ?_
  refine x_iload3 G dl_326 ?_
  refine x_iconst (v := nI 2) G dl_327 rfl ?_
  refine x_iadd G dl_328 ?_
  refine x_sld (i + 2) G dl_329 rfl hX hz hbl (nI_add i 2) ⟨by omega, by omega⟩ ?_
  refine x_aload0 G dl_330 ?_
  refine x_iload3 G dl_331 ?_
  refine x_iconst (v := nI 3) G dl_332 rfl ?_
  refine x_iadd G dl_333 ?_
  refine x_sld (i + 3) G dl_334 rfl hX hz hbl (nI_add i 3) ⟨by omega, by omega⟩ ?_
  refine m_callV_pr (hB v σ1 hv1) G dl_335 lk_LAW_26 rfl ⟨by decide, rfl⟩ (by decide) (by decide) rfl (Nat.le_of_ble_eq_true rfl) hx (fun v2 σ2 hv2 => ?_)
  refine x_icmp_eq G dl_338 (fun _ => kk σ2 hv2.2) (fun c => absurd hv2.1.symm c)
theorem lc_3 {κ : KX} {N : Nat} {xs : Nat → Int32} (w : LWk κ N xs) (i : Nat) (hi : i + 6 ≤ N) {σ : Sg} (h : LI σ) (kk : ∀ σ2, LI σ2 → X κ NC 1596 (LL i) [] (hv σ2)) : X κ NC 343 (LL i) [] (hv σ) := by
  obtain ⟨G, hx, hk0, hX, hz, hbl, hN⟩ := w
  obtain ⟨P, hA, hB⟩ := q_as (g := kg κ) h (xs (i + 1)) (xs (i + 2))
  refine x_aload1 G dl_343 ?_
  refine x_aload0 G dl_344 ?_
  refine x_iload3 G dl_345 ?_
  refine x_iconst (v := nI 1) G dl_346 rfl ?_
  refine x_iadd G dl_347 ?_
  refine x_sld (i + 1) G dl_348 rfl hX hz hbl (nI_add i 1) ⟨by omega, by omega⟩ ?_
  refine x_aload0 G dl_349 ?_
  refine x_iload3 G dl_350 ?_
  refine x_iconst (v := nI 2) G dl_351 rfl ?_
  refine x_iadd G dl_352 ?_
  refine x_sld (i + 2) G dl_353 rfl hX hz hbl (nI_add i 2) ⟨by omega, by omega⟩ ?_
  refine m_callV_pr hA G dl_354 lk_LAW_27 rfl ⟨by decide, rfl⟩ (by decide) (by decide) rfl (Nat.le_of_ble_eq_true rfl) hx (fun v σ1 hv1 => ?_)
  refine x_aload2 G dl_357 ?_
  refine x_aload0 G dl_358 ?_
  refine x_iload3 G dl_359 ?_
  refine x_iconst (v := nI 1) G dl_360 rfl ?_
  refine x_iadd G dl_361 ?_
  refine x_sld (i + 1) G dl_362 rfl hX hz hbl (nI_add i 1) ⟨by omega, by omega⟩ ?_
  refine x_aload0 G dl_363 ?_
  refine x_iload3 G dl_364 ?_
  refine x_iconst (v := nI 2) G dl_365 rfl ?_
  refine x_iadd G dl_366 ?_
  refine x_sld (i + 2) G dl_367 rfl hX hz hbl (nI_add i 2) ⟨by omega, by omega⟩ ?_
  refine m_callV_pr (hB v σ1 hv1) G dl_368 lk_LAW_30 rfl ⟨by decide, rfl⟩ (by decide) (by decide) rfl (Nat.le_of_ble_eq_true rfl) hx (fun v2 σ2 hv2 => ?_)
  refine x_icmp_eq G dl_371 (fun _ => kk σ2 hv2.2) (fun c => absurd hv2.1.symm c)
theorem lc_4 {κ : KX} {N : Nat} {xs : Nat → Int32} (w : LWk κ N xs) (i : Nat) (hi : i + 6 ≤ N) {σ : Sg} (h : LI σ) (kk : ∀ σ2, LI σ2 → X κ NC 1596 (LL i) [] (hv σ2)) : X κ NC 376 (LL i) [] (hv σ) := by
  obtain ⟨G, hx, hk0, hX, hz, hbl, hN⟩ := w
  obtain ⟨P, hA, hB⟩ := q_turns (g := kg κ) h (xs (i + 1)) (xs (i + 2))
  refine x_aload1 G dl_376 ?_
  refine x_aload0 G dl_377 ?_
  refine x_iload3 G dl_378 ?_
  refine x_iconst (v := nI 1) G dl_379 rfl ?_
  refine x_iadd G dl_380 ?_
  refine x_sld (i + 1) G dl_381 rfl hX hz hbl (nI_add i 1) ⟨by omega, by omega⟩ ?_
  refine x_aload0 G dl_382 ?_
  refine x_iload3 G dl_383 ?_
  refine x_iconst (v := nI 2) G dl_384 rfl ?_
  refine x_iadd G dl_385 ?_
  refine x_sld (i + 2) G dl_386 rfl hX hz hbl (nI_add i 2) ⟨by omega, by omega⟩ ?_
  refine m_callV_pr hA G dl_387 lk_LAW_31 rfl ⟨by decide, rfl⟩ (by decide) (by decide) rfl (Nat.le_of_ble_eq_true rfl) hx (fun v σ1 hv1 => ?_)
  refine x_aload2 G dl_390 ?_
  refine x_aload0 G dl_391 ?_
  refine x_iload3 G dl_392 ?_
  refine x_iconst (v := nI 1) G dl_393 rfl ?_
  refine x_iadd G dl_394 ?_
  refine x_sld (i + 1) G dl_395 rfl hX hz hbl (nI_add i 1) ⟨by omega, by omega⟩ ?_
  refine x_aload0 G dl_396 ?_
  refine x_iload3 G dl_397 ?_
  refine x_iconst (v := nI 2) G dl_398 rfl ?_
  refine x_iadd G dl_399 ?_
  refine x_sld (i + 2) G dl_400 rfl hX hz hbl (nI_add i 2) ⟨by omega, by omega⟩ ?_
  refine m_callV_pr (hB v σ1 hv1) G dl_401 lk_LAW_34 rfl ⟨by decide, rfl⟩ (by decide) (by decide) rfl (Nat.le_of_ble_eq_true rfl) hx (fun v2 σ2 hv2 => ?_)
  refine x_icmp_eq G dl_404 (fun _ => kk σ2 hv2.2) (fun c => absurd hv2.1.symm c)
theorem lc_5 {κ : KX} {N : Nat} {xs : Nat → Int32} (w : LWk κ N xs) (i : Nat) (hi : i + 6 ≤ N) {σ : Sg} (h : LI σ) (kk : ∀ σ2, LI σ2 → X κ NC 1596 (LL i) [] (hv σ2)) : X κ NC 409 (LL i) [] (hv σ) := by
  obtain ⟨G, hx, hk0, hX, hz, hbl, hN⟩ := w
  obtain ⟨P, hA, hB⟩ := q_set (g := kg κ) h (xs (i + 1)) (xs (i + 2)) (xs (i + 3))
  refine x_aload1 G dl_409 ?_
  refine x_aload0 G dl_410 ?_
  refine x_iload3 G dl_411 ?_
  refine x_iconst (v := nI 1) G dl_412 rfl ?_
  refine x_iadd G dl_413 ?_
  refine x_sld (i + 1) G dl_414 rfl hX hz hbl (nI_add i 1) ⟨by omega, by omega⟩ ?_
  refine x_aload0 G dl_415 ?_
  refine x_iload3 G dl_416 ?_
  refine x_iconst (v := nI 2) G dl_417 rfl ?_
  refine x_iadd G dl_418 ?_
  refine x_sld (i + 2) G dl_419 rfl hX hz hbl (nI_add i 2) ⟨by omega, by omega⟩ ?_
  refine x_aload0 G dl_420 ?_
  refine x_iload3 G dl_421 ?_
  refine x_iconst (v := nI 3) G dl_422 rfl ?_
  refine x_iadd G dl_423 ?_
  refine x_sld (i + 3) G dl_424 rfl hX hz hbl (nI_add i 3) ⟨by omega, by omega⟩ ?_
  refine m_callV_pr hA G dl_425 lk_LAW_35 rfl ⟨by decide, rfl⟩ (by decide) (by decide) rfl (Nat.le_of_ble_eq_true rfl) hx (fun v σ1 hv1 => ?_)
  refine x_aload2 G dl_428 ?_
  refine x_aload0 G dl_429 ?_
  refine x_iload3 G dl_430 ?_
  refine x_iconst (v := nI 1) G dl_431 rfl ?_
  refine x_iadd G dl_432 ?_
  refine x_sld (i + 1) G dl_433 rfl hX hz hbl (nI_add i 1) ⟨by omega, by omega⟩ ?_
  refine x_aload0 G dl_434 ?_
  refine x_iload3 G dl_435 ?_
  refine x_iconst (v := nI 2) G dl_436 rfl ?_
  refine x_iadd G dl_437 ?_
  refine x_sld (i + 2) G dl_438 rfl hX hz hbl (nI_add i 2) ⟨by omega, by omega⟩ ?_
  refine x_aload0 G dl_439 ?_
  refine x_iload3 G dl_440 ?_
  refine x_iconst (v := nI 3) G dl_441 rfl ?_
  refine x_iadd G dl_442 ?_
  refine x_sld (i + 3) G dl_443 rfl hX hz hbl (nI_add i 3) ⟨by omega, by omega⟩ ?_
  refine m_callV_pr (hB v σ1 hv1) G dl_444 lk_LAW_38 rfl ⟨by decide, rfl⟩ (by decide) (by decide) rfl (Nat.le_of_ble_eq_true rfl) hx (fun v2 σ2 hv2 => ?_)
  refine x_icmp_eq G dl_447 (fun _ => kk σ2 hv2.2) (fun c => absurd hv2.1.symm c)
theorem lc_6 {κ : KX} {N : Nat} {xs : Nat → Int32} (w : LWk κ N xs) (i : Nat) (hi : i + 6 ≤ N) {σ : Sg} (h : LI σ) (kk : ∀ σ2, LI σ2 → X κ NC 1596 (LL i) [] (hv σ2)) : X κ NC 452 (LL i) [] (hv σ) := by
  obtain ⟨G, hx, hk0, hX, hz, hbl, hN⟩ := w
  obtain ⟨P, hA, hB⟩ := q_talk (g := kg κ) h (xs (i + 1)) (xs (i + 2)) (xs (i + 3))
  refine x_aload1 G dl_452 ?_
  refine x_aload0 G dl_453 ?_
  refine x_iload3 G dl_454 ?_
  refine x_iconst (v := nI 1) G dl_455 rfl ?_
  refine x_iadd G dl_456 ?_
  refine x_sld (i + 1) G dl_457 rfl hX hz hbl (nI_add i 1) ⟨by omega, by omega⟩ ?_
  refine x_aload0 G dl_458 ?_
  refine x_iload3 G dl_459 ?_
  refine x_iconst (v := nI 2) G dl_460 rfl ?_
  refine x_iadd G dl_461 ?_
  refine x_sld (i + 2) G dl_462 rfl hX hz hbl (nI_add i 2) ⟨by omega, by omega⟩ ?_
  refine x_aload0 G dl_463 ?_
  refine x_iload3 G dl_464 ?_
  refine x_iconst (v := nI 3) G dl_465 rfl ?_
  refine x_iadd G dl_466 ?_
  refine x_sld (i + 3) G dl_467 rfl hX hz hbl (nI_add i 3) ⟨by omega, by omega⟩ ?_
  refine m_callV_pr hA G dl_468 lk_LAW_39 rfl ⟨by decide, rfl⟩ (by decide) (by decide) rfl (Nat.le_of_ble_eq_true rfl) hx (fun v σ1 hv1 => ?_)
  refine x_aload2 G dl_471 ?_
  refine x_aload0 G dl_472 ?_
  refine x_iload3 G dl_473 ?_
  refine x_iconst (v := nI 1) G dl_474 rfl ?_
  refine x_iadd G dl_475 ?_
  refine x_sld (i + 1) G dl_476 rfl hX hz hbl (nI_add i 1) ⟨by omega, by omega⟩ ?_
  refine x_aload0 G dl_477 ?_
  refine x_iload3 G dl_478 ?_
  refine x_iconst (v := nI 2) G dl_479 rfl ?_
  refine x_iadd G dl_480 ?_
  refine x_sld (i + 2) G dl_481 rfl hX hz hbl (nI_add i 2) ⟨by omega, by omega⟩ ?_
  refine x_aload0 G dl_482 ?_
  refine x_iload3 G dl_483 ?_
  refine x_iconst (v := nI 3) G dl_484 rfl ?_
  refine x_iadd G dl_485 ?_
  refine x_sld (i + 3) G dl_486 rfl hX hz hbl (nI_add i 3) ⟨by omega, by omega⟩ ?_
  refine m_callV_pr (hB v σ1 hv1) G dl_487 lk_LAW_42 rfl ⟨by decide, rfl⟩ (by decide) (by decide) rfl (Nat.le_of_ble_eq_true rfl) hx (fun v2 σ2 hv2 => ?_)
  refine x_icmp_eq G dl_490 (fun _ => kk σ2 hv2.2) (fun c => absurd hv2.1.symm c)
theorem lc_7 {κ : KX} {N : Nat} {xs : Nat → Int32} (w : LWk κ N xs) (i : Nat) (hi : i + 6 ≤ N) {σ : Sg} (h : LI σ) (kk : ∀ σ2, LI σ2 → X κ NC 1596 (LL i) [] (hv σ2)) : X κ NC 495 (LL i) [] (hv σ) := by
  obtain ⟨G, hx, hk0, hX, hz, hbl, hN⟩ := w
  obtain ⟨P, hA, hB⟩ := q_field (g := kg κ) h (xs (i + 1)) (xs (i + 2))
  refine x_aload1 G dl_495 ?_
  refine x_aload0 G dl_496 ?_
  refine x_iload3 G dl_497 ?_
  refine x_iconst (v := nI 1) G dl_498 rfl ?_
  refine x_iadd G dl_499 ?_
  refine x_sld (i + 1) G dl_500 rfl hX hz hbl (nI_add i 1) ⟨by omega, by omega⟩ ?_
  refine x_aload0 G dl_501 ?_
  refine x_iload3 G dl_502 ?_
  refine x_iconst (v := nI 2) G dl_503 rfl ?_
  refine x_iadd G dl_504 ?_
  refine x_sld (i + 2) G dl_505 rfl hX hz hbl (nI_add i 2) ⟨by omega, by omega⟩ ?_
  refine m_callV_pr hA G dl_506 lk_LAW_43 rfl ⟨by decide, rfl⟩ (by decide) (by decide) rfl (Nat.le_of_ble_eq_true rfl) hx (fun v σ1 hv1 => ?_)
  refine x_aload2 G dl_509 ?_
  refine x_aload0 G dl_510 ?_
  refine x_iload3 G dl_511 ?_
  refine x_iconst (v := nI 1) G dl_512 rfl ?_
  refine x_iadd G dl_513 ?_
  refine x_sld (i + 1) G dl_514 rfl hX hz hbl (nI_add i 1) ⟨by omega, by omega⟩ ?_
  refine x_aload0 G dl_515 ?_
  refine x_iload3 G dl_516 ?_
  refine x_iconst (v := nI 2) G dl_517 rfl ?_
  refine x_iadd G dl_518 ?_
  refine x_sld (i + 2) G dl_519 rfl hX hz hbl (nI_add i 2) ⟨by omega, by omega⟩ ?_
  refine m_callV_pr (hB v σ1 hv1) G dl_520 lk_LAW_46 rfl ⟨by decide, rfl⟩ (by decide) (by decide) rfl (Nat.le_of_ble_eq_true rfl) hx (fun v2 σ2 hv2 => ?_)
  refine x_icmp_eq G dl_523 (fun _ => kk σ2 hv2.2) (fun c => absurd hv2.1.symm c)
theorem lc_8 {κ : KX} {N : Nat} {xs : Nat → Int32} (w : LWk κ N xs) (i : Nat) (hi : i + 6 ≤ N) {σ : Sg} (h : LI σ) (kk : ∀ σ2, LI σ2 → X κ NC 1596 (LL i) [] (hv σ2)) : X κ NC 528 (LL i) [] (hv σ) := by
  obtain ⟨G, hx, hk0, hX, hz, hbl, hN⟩ := w
  obtain ⟨P, hA, hB⟩ := q_lays (g := kg κ) h (xs (i + 1)) (xs (i + 2)) (xs (i + 3))
  refine x_aload1 G dl_528 ?_
  refine x_aload0 G dl_529 ?_
  refine x_iload3 G dl_530 ?_
  refine x_iconst (v := nI 1) G dl_531 rfl ?_
  refine x_iadd G dl_532 ?_
  refine x_sld (i + 1) G dl_533 rfl hX hz hbl (nI_add i 1) ⟨by omega, by omega⟩ ?_
  refine x_aload0 G dl_534 ?_
  refine x_iload3 G dl_535 ?_
  refine x_iconst (v := nI 2) G dl_536 rfl ?_
  refine x_iadd G dl_537 ?_
  refine x_sld (i + 2) G dl_538 rfl hX hz hbl (nI_add i 2) ⟨by omega, by omega⟩ ?_
  refine x_aload0 G dl_539 ?_
  refine x_iload3 G dl_540 ?_
  refine x_iconst (v := nI 3) G dl_541 rfl ?_
  refine x_iadd G dl_542 ?_
  refine x_sld (i + 3) G dl_543 rfl hX hz hbl (nI_add i 3) ⟨by omega, by omega⟩ ?_
  refine m_callV_pr hA G dl_544 lk_LAW_47 rfl ⟨by decide, rfl⟩ (by decide) (by decide) rfl (Nat.le_of_ble_eq_true rfl) hx (fun v σ1 hv1 => ?_)
  refine x_aload2 G dl_547 ?_
  refine x_aload0 G dl_548 ?_
  refine x_iload3 G dl_549 ?_
  refine x_iconst (v := nI 1) G dl_550 rfl ?_
  refine x_iadd G dl_551 ?_
  refine x_sld (i + 1) G dl_552 rfl hX hz hbl (nI_add i 1) ⟨by omega, by omega⟩ ?_
  refine x_aload0 G dl_553 ?_
  refine x_iload3 G dl_554 ?_
  refine x_iconst (v := nI 2) G dl_555 rfl ?_
  refine x_iadd G dl_556 ?_
  refine x_sld (i + 2) G dl_557 rfl hX hz hbl (nI_add i 2) ⟨by omega, by omega⟩ ?_
  refine x_aload0 G dl_558 ?_
  refine x_iload3 G dl_559 ?_
  refine x_iconst (v := nI 3) G dl_560 rfl ?_
  refine x_iadd G dl_561 ?_
  refine x_sld (i + 3) G dl_562 rfl hX hz hbl (nI_add i 3) ⟨by omega, by omega⟩ ?_
  refine m_callV_pr (hB v σ1 hv1) G dl_563 lk_LAW_50 rfl ⟨by decide, rfl⟩ (by decide) (by decide) rfl (Nat.le_of_ble_eq_true rfl) hx (fun v2 σ2 hv2 => ?_)
  refine x_icmp_eq G dl_566 (fun _ => kk σ2 hv2.2) (fun c => absurd hv2.1.symm c)
theorem lc_9 {κ : KX} {N : Nat} {xs : Nat → Int32} (w : LWk κ N xs) (i : Nat) (hi : i + 6 ≤ N) {σ : Sg} (h : LI σ) (kk : ∀ σ2, LI σ2 → X κ NC 1596 (LL i) [] (hv σ2)) : X κ NC 571 (LL i) [] (hv σ) := by
  obtain ⟨G, hx, hk0, hX, hz, hbl, hN⟩ := w
  obtain ⟨P, hA, hB⟩ := q_far (g := kg κ) h (xs (i + 1)) (xs (i + 2))
  refine x_aload1 G dl_571 ?_
  refine x_aload0 G dl_572 ?_
  refine x_iload3 G dl_573 ?_
  refine x_iconst (v := nI 1) G dl_574 rfl ?_
  refine x_iadd G dl_575 ?_
  refine x_sld (i + 1) G dl_576 rfl hX hz hbl (nI_add i 1) ⟨by omega, by omega⟩ ?_
  refine x_aload0 G dl_577 ?_
  refine x_iload3 G dl_578 ?_
  refine x_iconst (v := nI 2) G dl_579 rfl ?_
  refine x_iadd G dl_580 ?_
  refine x_sld (i + 2) G dl_581 rfl hX hz hbl (nI_add i 2) ⟨by omega, by omega⟩ ?_
  refine m_callV_pr hA G dl_582 lk_LAW_51 rfl ⟨by decide, rfl⟩ (by decide) (by decide) rfl (Nat.le_of_ble_eq_true rfl) hx (fun v σ1 hv1 => ?_)
  refine x_aload2 G dl_585 ?_
  refine x_aload0 G dl_586 ?_
  refine x_iload3 G dl_587 ?_
  refine x_iconst (v := nI 1) G dl_588 rfl ?_
  refine x_iadd G dl_589 ?_
  refine x_sld (i + 1) G dl_590 rfl hX hz hbl (nI_add i 1) ⟨by omega, by omega⟩ ?_
  refine x_aload0 G dl_591 ?_
  refine x_iload3 G dl_592 ?_
  refine x_iconst (v := nI 2) G dl_593 rfl ?_
  refine x_iadd G dl_594 ?_
  refine x_sld (i + 2) G dl_595 rfl hX hz hbl (nI_add i 2) ⟨by omega, by omega⟩ ?_
  refine m_callV_pr (hB v σ1 hv1) G dl_596 lk_LAW_54 rfl ⟨by decide, rfl⟩ (by decide) (by decide) rfl (Nat.le_of_ble_eq_true rfl) hx (fun v2 σ2 hv2 => ?_)
  refine x_icmp_eq G dl_599 (fun _ => kk σ2 hv2.2) (fun c => absurd hv2.1.symm c)
theorem lc_10 {κ : KX} {N : Nat} {xs : Nat → Int32} (w : LWk κ N xs) (i : Nat) (hi : i + 6 ≤ N) {σ : Sg} (h : LI σ) (kk : ∀ σ2, LI σ2 → X κ NC 1596 (LL i) [] (hv σ2)) : X κ NC 604 (LL i) [] (hv σ) := by
  obtain ⟨G, hx, hk0, hX, hz, hbl, hN⟩ := w
  obtain ⟨P, hA, hB⟩ := q_late (g := kg κ) h (xs (i + 1))
  refine x_aload1 G dl_604 ?_
  refine x_aload0 G dl_605 ?_
  refine x_iload3 G dl_606 ?_
  refine x_iconst (v := nI 1) G dl_607 rfl ?_
  refine x_iadd G dl_608 ?_
  refine x_sld (i + 1) G dl_609 rfl hX hz hbl (nI_add i 1) ⟨by omega, by omega⟩ ?_
  refine m_callV_pr hA G dl_610 lk_LAW_55 rfl ⟨by decide, rfl⟩ (by decide) (by decide) rfl (Nat.le_of_ble_eq_true rfl) hx (fun v σ1 hv1 => ?_)
  refine x_aload2 G dl_613 ?_
  refine x_aload0 G dl_614 ?_
  refine x_iload3 G dl_615 ?_
  refine x_iconst (v := nI 1) G dl_616 rfl ?_
  refine x_iadd G dl_617 ?_
  refine x_sld (i + 1) G dl_618 rfl hX hz hbl (nI_add i 1) ⟨by omega, by omega⟩ ?_
  refine m_callV_pr (hB v σ1 hv1) G dl_619 lk_LAW_59 rfl ⟨by decide, rfl⟩ (by decide) (by decide) rfl (Nat.le_of_ble_eq_true rfl) hx (fun v2 σ2 hv2 => ?_)
  refine x_icmp_eq G dl_622 (fun _ => kk σ2 hv2.2) (fun c => absurd hv2.1.symm c)
theorem lc_11 {κ : KX} {N : Nat} {xs : Nat → Int32} (w : LWk κ N xs) (i : Nat) (hi : i + 6 ≤ N) {σ : Sg} (h : LI σ) (kk : ∀ σ2, LI σ2 → X κ NC 1596 (LL i) [] (hv σ2)) : X κ NC 627 (LL i) [] (hv σ) := by
  obtain ⟨G, hx, hk0, hX, hz, hbl, hN⟩ := w
  obtain ⟨P, hA, hB⟩ := q_deal (g := kg κ) h (xs (i + 1))
  refine x_aload1 G dl_627 ?_
  refine x_aload0 G dl_628 ?_
  refine x_iload3 G dl_629 ?_
  refine x_iconst (v := nI 1) G dl_630 rfl ?_
  refine x_iadd G dl_631 ?_
  refine x_sld (i + 1) G dl_632 rfl hX hz hbl (nI_add i 1) ⟨by omega, by omega⟩ ?_
  refine m_callV_pr hA G dl_633 lk_LAW_60 rfl ⟨by decide, rfl⟩ (by decide) (by decide) rfl (Nat.le_of_ble_eq_true rfl) hx (fun v σ1 hv1 => ?_)
  refine x_aload2 G dl_636 ?_
  refine x_aload0 G dl_637 ?_
  refine x_iload3 G dl_638 ?_
  refine x_iconst (v := nI 1) G dl_639 rfl ?_
  refine x_iadd G dl_640 ?_
  refine x_sld (i + 1) G dl_641 rfl hX hz hbl (nI_add i 1) ⟨by omega, by omega⟩ ?_
  refine m_callV_pr (hB v σ1 hv1) G dl_642 lk_LAW_63 rfl ⟨by decide, rfl⟩ (by decide) (by decide) rfl (Nat.le_of_ble_eq_true rfl) hx (fun v2 σ2 hv2 => ?_)
  refine x_icmp_eq G dl_645 (fun _ => kk σ2 hv2.2) (fun c => absurd hv2.1.symm c)
theorem lc_12 {κ : KX} {N : Nat} {xs : Nat → Int32} (w : LWk κ N xs) (i : Nat) (hi : i + 6 ≤ N) {σ : Sg} (h : LI σ) (kk : ∀ σ2, LI σ2 → X κ NC 1596 (LL i) [] (hv σ2)) : X κ NC 650 (LL i) [] (hv σ) := by
  obtain ⟨G, hx, hk0, hX, hz, hbl, hN⟩ := w
  obtain ⟨P, hA, hB⟩ := q_seed (g := kg κ) h (xs (i + 1))
  refine x_aload1 G dl_650 ?_
  refine x_aload0 G dl_651 ?_
  refine x_iload3 G dl_652 ?_
  refine x_iconst (v := nI 1) G dl_653 rfl ?_
  refine x_iadd G dl_654 ?_
  refine x_sld (i + 1) G dl_655 rfl hX hz hbl (nI_add i 1) ⟨by omega, by omega⟩ ?_
  refine m_callV_pr hA G dl_656 lk_LAW_64 rfl ⟨by decide, rfl⟩ (by decide) (by decide) rfl (Nat.le_of_ble_eq_true rfl) hx (fun v σ1 hv1 => ?_)
  refine x_aload2 G dl_659 ?_
  refine x_aload0 G dl_660 ?_
  refine x_iload3 G dl_661 ?_
  refine x_iconst (v := nI 1) G dl_662 rfl ?_
  refine x_iadd G dl_663 ?_
  refine x_sld (i + 1) G dl_664 rfl hX hz hbl (nI_add i 1) ⟨by omega, by omega⟩ ?_
  refine m_callV_pr (hB v σ1 hv1) G dl_665 lk_LAW_67 rfl ⟨by decide, rfl⟩ (by decide) (by decide) rfl (Nat.le_of_ble_eq_true rfl) hx (fun v2 σ2 hv2 => ?_)
  refine x_icmp_eq G dl_668 (fun _ => kk σ2 hv2.2) (fun c => absurd hv2.1.symm c)
theorem lc_13 {κ : KX} {N : Nat} {xs : Nat → Int32} (w : LWk κ N xs) (i : Nat) (hi : i + 6 ≤ N) {σ : Sg} (h : LI σ) (kk : ∀ σ2, LI σ2 → X κ NC 1596 (LL i) [] (hv σ2)) : X κ NC 673 (LL i) [] (hv σ) := by
  obtain ⟨G, hx, hk0, hX, hz, hbl, hN⟩ := w
  obtain ⟨P, hA, hB⟩ := q_noons (g := kg κ) h (xs (i + 1))
  refine x_aload1 G dl_673 ?_
  refine x_aload0 G dl_674 ?_
  refine x_iload3 G dl_675 ?_
  refine x_iconst (v := nI 1) G dl_676 rfl ?_
  refine x_iadd G dl_677 ?_
  refine x_sld (i + 1) G dl_678 rfl hX hz hbl (nI_add i 1) ⟨by omega, by omega⟩ ?_
  refine m_callV_pr hA G dl_679 lk_LAW_68 rfl ⟨by decide, rfl⟩ (by decide) (by decide) rfl (Nat.le_of_ble_eq_true rfl) hx (fun v σ1 hv1 => ?_)
  refine x_aload2 G dl_682 ?_
  refine x_aload0 G dl_683 ?_
  refine x_iload3 G dl_684 ?_
  refine x_iconst (v := nI 1) G dl_685 rfl ?_
  refine x_iadd G dl_686 ?_
  refine x_sld (i + 1) G dl_687 rfl hX hz hbl (nI_add i 1) ⟨by omega, by omega⟩ ?_
  refine m_callV_pr (hB v σ1 hv1) G dl_688 lk_LAW_71 rfl ⟨by decide, rfl⟩ (by decide) (by decide) rfl (Nat.le_of_ble_eq_true rfl) hx (fun v2 σ2 hv2 => ?_)
  refine x_icmp_eq G dl_691 (fun _ => kk σ2 hv2.2) (fun c => absurd hv2.1.symm c)
theorem lc_14 {κ : KX} {N : Nat} {xs : Nat → Int32} (w : LWk κ N xs) (i : Nat) (hi : i + 6 ≤ N) {σ : Sg} (h : LI σ) (kk : ∀ σ2, LI σ2 → X κ NC 1596 (LL i) [] (hv σ2)) : X κ NC 696 (LL i) [] (hv σ) := by
  obtain ⟨G, hx, hk0, hX, hz, hbl, hN⟩ := w
  obtain ⟨P, hA, hB⟩ := q_year (g := kg κ) h (xs (i + 1))
  refine x_aload1 G dl_696 ?_
  refine x_aload0 G dl_697 ?_
  refine x_iload3 G dl_698 ?_
  refine x_iconst (v := nI 1) G dl_699 rfl ?_
  refine x_iadd G dl_700 ?_
  refine x_sld (i + 1) G dl_701 rfl hX hz hbl (nI_add i 1) ⟨by omega, by omega⟩ ?_
  refine m_callV_pr hA G dl_702 lk_LAW_72 rfl ⟨by decide, rfl⟩ (by decide) (by decide) rfl (Nat.le_of_ble_eq_true rfl) hx (fun v σ1 hv1 => ?_)
  refine x_aload2 G dl_705 ?_
  refine x_aload0 G dl_706 ?_
  refine x_iload3 G dl_707 ?_
  refine x_iconst (v := nI 1) G dl_708 rfl ?_
  refine x_iadd G dl_709 ?_
  refine x_sld (i + 1) G dl_710 rfl hX hz hbl (nI_add i 1) ⟨by omega, by omega⟩ ?_
  refine m_callV_pr (hB v σ1 hv1) G dl_711 lk_LAW_75 rfl ⟨by decide, rfl⟩ (by decide) (by decide) rfl (Nat.le_of_ble_eq_true rfl) hx (fun v2 σ2 hv2 => ?_)
  refine x_icmp_eq G dl_714 (fun _ => kk σ2 hv2.2) (fun c => absurd hv2.1.symm c)
theorem lc_15 {κ : KX} {N : Nat} {xs : Nat → Int32} (w : LWk κ N xs) (i : Nat) (hi : i + 6 ≤ N) {σ : Sg} (h : LI σ) (kk : ∀ σ2, LI σ2 → X κ NC 1596 (LL i) [] (hv σ2)) : X κ NC 719 (LL i) [] (hv σ) := by
  obtain ⟨G, hx, hk0, hX, hz, hbl, hN⟩ := w
  obtain ⟨P, hA, hB⟩ := q_best (g := kg κ) h (xs (i + 1))
  refine x_aload1 G dl_719 ?_
  refine x_aload0 G dl_720 ?_
  refine x_iload3 G dl_721 ?_
  refine x_iconst (v := nI 1) G dl_722 rfl ?_
  refine x_iadd G dl_723 ?_
  refine x_sld (i + 1) G dl_724 rfl hX hz hbl (nI_add i 1) ⟨by omega, by omega⟩ ?_
  refine m_callV_pr hA G dl_725 lk_LAW_76 rfl ⟨by decide, rfl⟩ (by decide) (by decide) rfl (Nat.le_of_ble_eq_true rfl) hx (fun v σ1 hv1 => ?_)
  refine x_aload2 G dl_728 ?_
  refine x_aload0 G dl_729 ?_
  refine x_iload3 G dl_730 ?_
  refine x_iconst (v := nI 1) G dl_731 rfl ?_
  refine x_iadd G dl_732 ?_
  refine x_sld (i + 1) G dl_733 rfl hX hz hbl (nI_add i 1) ⟨by omega, by omega⟩ ?_
  refine m_callV_pr (hB v σ1 hv1) G dl_734 lk_LAW_79 rfl ⟨by decide, rfl⟩ (by decide) (by decide) rfl (Nat.le_of_ble_eq_true rfl) hx (fun v2 σ2 hv2 => ?_)
  refine x_icmp_eq G dl_737 (fun _ => kk σ2 hv2.2) (fun c => absurd hv2.1.symm c)
theorem lc_16 {κ : KX} {N : Nat} {xs : Nat → Int32} (w : LWk κ N xs) (i : Nat) (hi : i + 6 ≤ N) {σ : Sg} (h : LI σ) (kk : ∀ σ2, LI σ2 → X κ NC 1596 (LL i) [] (hv σ2)) : X κ NC 742 (LL i) [] (hv σ) := by
  obtain ⟨G, hx, hk0, hX, hz, hbl, hN⟩ := w
  obtain ⟨P, hA, hB⟩ := q_behind (g := kg κ) h (xs (i + 1)) (xs (i + 2))
  refine x_aload1 G dl_742 ?_
  refine x_aload0 G dl_743 ?_
  refine x_iload3 G dl_744 ?_
  refine x_iconst (v := nI 1) G dl_745 rfl ?_
  refine x_iadd G dl_746 ?_
  refine x_sld (i + 1) G dl_747 rfl hX hz hbl (nI_add i 1) ⟨by omega, by omega⟩ ?_
  refine x_aload0 G dl_748 ?_
  refine x_iload3 G dl_749 ?_
  refine x_iconst (v := nI 2) G dl_750 rfl ?_
  refine x_iadd G dl_751 ?_
  refine x_sld (i + 2) G dl_752 rfl hX hz hbl (nI_add i 2) ⟨by omega, by omega⟩ ?_
  refine m_callV_pr hA G dl_753 lk_LAW_80 rfl ⟨by decide, rfl⟩ (by decide) (by decide) rfl (Nat.le_of_ble_eq_true rfl) hx (fun v σ1 hv1 => ?_)
  refine x_aload2 G dl_756 ?_
  refine x_aload0 G dl_757 ?_
  refine x_iload3 G dl_758 ?_
  refine x_iconst (v := nI 1) G dl_759 rfl ?_
  refine x_iadd G dl_760 ?_
  refine x_sld (i + 1) G dl_761 rfl hX hz hbl (nI_add i 1) ⟨by omega, by omega⟩ ?_
  refine x_aload0 G dl_762 ?_
  refine x_iload3 G dl_763 ?_
  refine x_iconst (v := nI 2) G dl_764 rfl ?_
  refine x_iadd G dl_765 ?_
  refine x_sld (i + 2) G dl_766 rfl hX hz hbl (nI_add i 2) ⟨by omega, by omega⟩ ?_
  refine m_callV_pr (hB v σ1 hv1) G dl_767 lk_LAW_83 rfl ⟨by decide, rfl⟩ (by decide) (by decide) rfl (Nat.le_of_ble_eq_true rfl) hx (fun v2 σ2 hv2 => ?_)
  refine x_icmp_eq G dl_770 (fun _ => kk σ2 hv2.2) (fun c => absurd hv2.1.symm c)
theorem lc_17 {κ : KX} {N : Nat} {xs : Nat → Int32} (w : LWk κ N xs) (i : Nat) (hi : i + 6 ≤ N) {σ : Sg} (h : LI σ) (kk : ∀ σ2, LI σ2 → X κ NC 1596 (LL i) [] (hv σ2)) : X κ NC 775 (LL i) [] (hv σ) := by
  obtain ⟨G, hx, hk0, hX, hz, hbl, hN⟩ := w
  obtain ⟨P, hA, hB⟩ := q_has (g := kg κ) h (xs (i + 1)) (xs (i + 2)) (xs (i + 3))
  refine x_aload1 G dl_775 ?_
  refine x_aload0 G dl_776 ?_
  refine x_iload3 G dl_777 ?_
  refine x_iconst (v := nI 1) G dl_778 rfl ?_
  refine x_iadd G dl_779 ?_
  refine x_sld (i + 1) G dl_780 rfl hX hz hbl (nI_add i 1) ⟨by omega, by omega⟩ ?_
  refine x_aload0 G dl_781 ?_
  refine x_iload3 G dl_782 ?_
  refine x_iconst (v := nI 2) G dl_783 rfl ?_
  refine x_iadd G dl_784 ?_
  refine x_sld (i + 2) G dl_785 rfl hX hz hbl (nI_add i 2) ⟨by omega, by omega⟩ ?_
  refine x_aload0 G dl_786 ?_
  refine x_iload3 G dl_787 ?_
  refine x_iconst (v := nI 3) G dl_788 rfl ?_
  refine x_iadd G dl_789 ?_
  refine x_sld (i + 3) G dl_790 rfl hX hz hbl (nI_add i 3) ⟨by omega, by omega⟩ ?_
  refine m_callV_pr hA G dl_791 lk_LAW_84 rfl ⟨by decide, rfl⟩ (by decide) (by decide) rfl (Nat.le_of_ble_eq_true rfl) hx (fun v σ1 hv1 => ?_)
  refine x_aload2 G dl_794 ?_
  refine x_aload0 G dl_795 ?_
  refine x_iload3 G dl_796 ?_
  refine x_iconst (v := nI 1) G dl_797 rfl ?_
  refine x_iadd G dl_798 ?_
  refine x_sld (i + 1) G dl_799 rfl hX hz hbl (nI_add i 1) ⟨by omega, by omega⟩ ?_
  refine x_aload0 G dl_800 ?_
  refine x_iload3 G dl_801 ?_
  refine x_iconst (v := nI 2) G dl_802 rfl ?_
  refine x_iadd G dl_803 ?_
  refine x_sld (i + 2) G dl_804 rfl hX hz hbl (nI_add i 2) ⟨by omega, by omega⟩ ?_
  refine x_aload0 G dl_805 ?_
  refine x_iload3 G dl_806 ?_
  refine x_iconst (v := nI 3) G dl_807 rfl ?_
  refine x_iadd G dl_808 ?_
  refine x_sld (i + 3) G dl_809 rfl hX hz hbl (nI_add i 3) ⟨by omega, by omega⟩ ?_
  refine m_callV_pr (hB v σ1 hv1) G dl_810 lk_LAW_87 rfl ⟨by decide, rfl⟩ (by decide) (by decide) rfl (Nat.le_of_ble_eq_true rfl) hx (fun v2 σ2 hv2 => ?_)
  refine x_icmp_eq G dl_813 (fun _ => kk σ2 hv2.2) (fun c => absurd hv2.1.symm c)
theorem lc_18 {κ : KX} {N : Nat} {xs : Nat → Int32} (w : LWk κ N xs) (i : Nat) (hi : i + 6 ≤ N) {σ : Sg} (h : LI σ) (kk : ∀ σ2, LI σ2 → X κ NC 1596 (LL i) [] (hv σ2)) : X κ NC 818 (LL i) [] (hv σ) := by
  obtain ⟨G, hx, hk0, hX, hz, hbl, hN⟩ := w
  obtain ⟨P, hA, hB⟩ := q_rota (g := kg κ) h (xs (i + 1))
  refine x_aload1 G dl_818 ?_
  refine x_aload0 G dl_819 ?_
  refine x_iload3 G dl_820 ?_
  refine x_iconst (v := nI 1) G dl_821 rfl ?_
  refine x_iadd G dl_822 ?_
  refine x_sld (i + 1) G dl_823 rfl hX hz hbl (nI_add i 1) ⟨by omega, by omega⟩ ?_
  refine m_callV_pr hA G dl_824 lk_LAW_88 rfl ⟨by decide, rfl⟩ (by decide) (by decide) rfl (Nat.le_of_ble_eq_true rfl) hx (fun v σ1 hv1 => ?_)
  refine x_aload2 G dl_827 ?_
  refine x_aload0 G dl_828 ?_
  refine x_iload3 G dl_829 ?_
  refine x_iconst (v := nI 1) G dl_830 rfl ?_
  refine x_iadd G dl_831 ?_
  refine x_sld (i + 1) G dl_832 rfl hX hz hbl (nI_add i 1) ⟨by omega, by omega⟩ ?_
  refine m_callV_pr (hB v σ1 hv1) G dl_833 lk_LAW_91 rfl ⟨by decide, rfl⟩ (by decide) (by decide) rfl (Nat.le_of_ble_eq_true rfl) hx (fun v2 σ2 hv2 => ?_)
  refine x_icmp_eq G dl_836 (fun _ => kk σ2 hv2.2) (fun c => absurd hv2.1.symm c)
theorem lc_19 {κ : KX} {N : Nat} {xs : Nat → Int32} (w : LWk κ N xs) (i : Nat) (hi : i + 6 ≤ N) {σ : Sg} (h : LI σ) (kk : ∀ σ2, LI σ2 → X κ NC 1596 (LL i) [] (hv σ2)) : X κ NC 841 (LL i) [] (hv σ) := by
  obtain ⟨G, hx, hk0, hX, hz, hbl, hN⟩ := w
  obtain ⟨P, hA, hB⟩ := q_sold (g := kg κ) h (xs (i + 1)) (xs (i + 2)) (xs (i + 3))
  refine x_aload1 G dl_841 ?_
  refine x_aload0 G dl_842 ?_
  refine x_iload3 G dl_843 ?_
  refine x_iconst (v := nI 1) G dl_844 rfl ?_
  refine x_iadd G dl_845 ?_
  refine x_sld (i + 1) G dl_846 rfl hX hz hbl (nI_add i 1) ⟨by omega, by omega⟩ ?_
  refine x_aload0 G dl_847 ?_
  refine x_iload3 G dl_848 ?_
  refine x_iconst (v := nI 2) G dl_849 rfl ?_
  refine x_iadd G dl_850 ?_
  refine x_sld (i + 2) G dl_851 rfl hX hz hbl (nI_add i 2) ⟨by omega, by omega⟩ ?_
  refine x_aload0 G dl_852 ?_
  refine x_iload3 G dl_853 ?_
  refine x_iconst (v := nI 3) G dl_854 rfl ?_
  refine x_iadd G dl_855 ?_
  refine x_sld (i + 3) G dl_856 rfl hX hz hbl (nI_add i 3) ⟨by omega, by omega⟩ ?_
  refine m_callV_pr hA G dl_857 lk_LAW_92 rfl ⟨by decide, rfl⟩ (by decide) (by decide) rfl (Nat.le_of_ble_eq_true rfl) hx (fun v σ1 hv1 => ?_)
  refine x_aload2 G dl_860 ?_
  refine x_aload0 G dl_861 ?_
  refine x_iload3 G dl_862 ?_
  refine x_iconst (v := nI 1) G dl_863 rfl ?_
  refine x_iadd G dl_864 ?_
  refine x_sld (i + 1) G dl_865 rfl hX hz hbl (nI_add i 1) ⟨by omega, by omega⟩ ?_
  refine x_aload0 G dl_866 ?_
  refine x_iload3 G dl_867 ?_
  refine x_iconst (v := nI 2) G dl_868 rfl ?_
  refine x_iadd G dl_869 ?_
  refine x_sld (i + 2) G dl_870 rfl hX hz hbl (nI_add i 2) ⟨by omega, by omega⟩ ?_
  refine x_aload0 G dl_871 ?_
  refine x_iload3 G dl_872 ?_
  refine x_iconst (v := nI 3) G dl_873 rfl ?_
  refine x_iadd G dl_874 ?_
  refine x_sld (i + 3) G dl_875 rfl hX hz hbl (nI_add i 3) ⟨by omega, by omega⟩ ?_
  refine m_callV_pr (hB v σ1 hv1) G dl_876 lk_LAW_95 rfl ⟨by decide, rfl⟩ (by decide) (by decide) rfl (Nat.le_of_ble_eq_true rfl) hx (fun v2 σ2 hv2 => ?_)
  refine x_icmp_eq G dl_879 (fun _ => kk σ2 hv2.2) (fun c => absurd hv2.1.symm c)
theorem lc_20 {κ : KX} {N : Nat} {xs : Nat → Int32} (w : LWk κ N xs) (i : Nat) (hi : i + 6 ≤ N) {σ : Sg} (h : LI σ) (kk : ∀ σ2, LI σ2 → X κ NC 1596 (LL i) [] (hv σ2)) : X κ NC 884 (LL i) [] (hv σ) := by
  obtain ⟨G, hx, hk0, hX, hz, hbl, hN⟩ := w
  obtain ⟨P, hA, hB⟩ := q_nobodys (g := kg κ) h (xs (i + 1)) (xs (i + 2))
  refine x_aload1 G dl_884 ?_
  refine x_aload0 G dl_885 ?_
  refine x_iload3 G dl_886 ?_
  refine x_iconst (v := nI 1) G dl_887 rfl ?_
  refine x_iadd G dl_888 ?_
  refine x_sld (i + 1) G dl_889 rfl hX hz hbl (nI_add i 1) ⟨by omega, by omega⟩ ?_
  refine x_aload0 G dl_890 ?_
  refine x_iload3 G dl_891 ?_
  refine x_iconst (v := nI 2) G dl_892 rfl ?_
  refine x_iadd G dl_893 ?_
  refine x_sld (i + 2) G dl_894 rfl hX hz hbl (nI_add i 2) ⟨by omega, by omega⟩ ?_
  refine m_callV_pr hA G dl_895 lk_LAW_96 rfl ⟨by decide, rfl⟩ (by decide) (by decide) rfl (Nat.le_of_ble_eq_true rfl) hx (fun v σ1 hv1 => ?_)
  refine x_aload2 G dl_898 ?_
  refine x_aload0 G dl_899 ?_
  refine x_iload3 G dl_900 ?_
  refine x_iconst (v := nI 1) G dl_901 rfl ?_
  refine x_iadd G dl_902 ?_
  refine x_sld (i + 1) G dl_903 rfl hX hz hbl (nI_add i 1) ⟨by omega, by omega⟩ ?_
  refine x_aload0 G dl_904 ?_
  refine x_iload3 G dl_905 ?_
  refine x_iconst (v := nI 2) G dl_906 rfl ?_
  refine x_iadd G dl_907 ?_
  refine x_sld (i + 2) G dl_908 rfl hX hz hbl (nI_add i 2) ⟨by omega, by omega⟩ ?_
  refine m_callV_pr (hB v σ1 hv1) G dl_909 lk_LAW_99 rfl ⟨by decide, rfl⟩ (by decide) (by decide) rfl (Nat.le_of_ble_eq_true rfl) hx (fun v2 σ2 hv2 => ?_)
  refine x_icmp_eq G dl_912 (fun _ => kk σ2 hv2.2) (fun c => absurd hv2.1.symm c)
theorem lc_21 {κ : KX} {N : Nat} {xs : Nat → Int32} (w : LWk κ N xs) (i : Nat) (hi : i + 6 ≤ N) {σ : Sg} (h : LI σ) (kk : ∀ σ2, LI σ2 → X κ NC 1596 (LL i) [] (hv σ2)) : X κ NC 917 (LL i) [] (hv σ) := by
  obtain ⟨G, hx, hk0, hX, hz, hbl, hN⟩ := w
  obtain ⟨P, hA, hB⟩ := q_beside (g := kg κ) h (xs (i + 1)) (xs (i + 2))
  refine x_aload1 G dl_917 ?_
  refine x_aload0 G dl_918 ?_
  refine x_iload3 G dl_919 ?_
  refine x_iconst (v := nI 1) G dl_920 rfl ?_
  refine x_iadd G dl_921 ?_
  refine x_sld (i + 1) G dl_922 rfl hX hz hbl (nI_add i 1) ⟨by omega, by omega⟩ ?_
  refine x_aload0 G dl_923 ?_
  refine x_iload3 G dl_924 ?_
  refine x_iconst (v := nI 2) G dl_925 rfl ?_
  refine x_iadd G dl_926 ?_
  refine x_sld (i + 2) G dl_927 rfl hX hz hbl (nI_add i 2) ⟨by omega, by omega⟩ ?_
  refine m_callV_pr hA G dl_928 lk_LAW_100 rfl ⟨by decide, rfl⟩ (by decide) (by decide) rfl (Nat.le_of_ble_eq_true rfl) hx (fun v σ1 hv1 => ?_)
  refine x_aload2 G dl_931 ?_
  refine x_aload0 G dl_932 ?_
  refine x_iload3 G dl_933 ?_
  refine x_iconst (v := nI 1) G dl_934 rfl ?_
  refine x_iadd G dl_935 ?_
  refine x_sld (i + 1) G dl_936 rfl hX hz hbl (nI_add i 1) ⟨by omega, by omega⟩ ?_
  refine x_aload0 G dl_937 ?_
  refine x_iload3 G dl_938 ?_
  refine x_iconst (v := nI 2) G dl_939 rfl ?_
  refine x_iadd G dl_940 ?_
  refine x_sld (i + 2) G dl_941 rfl hX hz hbl (nI_add i 2) ⟨by omega, by omega⟩ ?_
  refine m_callV_pr (hB v σ1 hv1) G dl_942 lk_LAW_103 rfl ⟨by decide, rfl⟩ (by decide) (by decide) rfl (Nat.le_of_ble_eq_true rfl) hx (fun v2 σ2 hv2 => ?_)
  refine x_icmp_eq G dl_945 (fun _ => kk σ2 hv2.2) (fun c => absurd hv2.1.symm c)
theorem lc_22 {κ : KX} {N : Nat} {xs : Nat → Int32} (w : LWk κ N xs) (i : Nat) (hi : i + 6 ≤ N) {σ : Sg} (h : LI σ) (kk : ∀ σ2, LI σ2 → X κ NC 1596 (LL i) [] (hv σ2)) : X κ NC 950 (LL i) [] (hv σ) := by
  obtain ⟨G, hx, hk0, hX, hz, hbl, hN⟩ := w
  obtain ⟨P, hA, hB⟩ := q_atHome (g := kg κ) h (xs (i + 1)) (xs (i + 2)) (xs (i + 3))
  refine x_aload1 G dl_950 ?_
  refine x_aload0 G dl_951 ?_
  refine x_iload3 G dl_952 ?_
  refine x_iconst (v := nI 1) G dl_953 rfl ?_
  refine x_iadd G dl_954 ?_
  refine x_sld (i + 1) G dl_955 rfl hX hz hbl (nI_add i 1) ⟨by omega, by omega⟩ ?_
  refine x_aload0 G dl_956 ?_
  refine x_iload3 G dl_957 ?_
  refine x_iconst (v := nI 2) G dl_958 rfl ?_
  refine x_iadd G dl_959 ?_
  refine x_sld (i + 2) G dl_960 rfl hX hz hbl (nI_add i 2) ⟨by omega, by omega⟩ ?_
  refine x_aload0 G dl_961 ?_
  refine x_iload3 G dl_962 ?_
  refine x_iconst (v := nI 3) G dl_963 rfl ?_
  refine x_iadd G dl_964 ?_
  refine x_sld (i + 3) G dl_965 rfl hX hz hbl (nI_add i 3) ⟨by omega, by omega⟩ ?_
  refine m_callV_pr hA G dl_966 lk_LAW_104 rfl ⟨by decide, rfl⟩ (by decide) (by decide) rfl (Nat.le_of_ble_eq_true rfl) hx (fun v σ1 hv1 => ?_)
  refine x_aload2 G dl_969 ?_
  refine x_aload0 G dl_970 ?_
  refine x_iload3 G dl_971 ?_
  refine x_iconst (v := nI 1) G dl_972 rfl ?_
  refine x_iadd G dl_973 ?_
  refine x_sld (i + 1) G dl_974 rfl hX hz hbl (nI_add i 1) ⟨by omega, by omega⟩ ?_
  refine x_aload0 G dl_975 ?_
  refine x_iload3 G dl_976 ?_
  refine x_iconst (v := nI 2) G dl_977 rfl ?_
  refine x_iadd G dl_978 ?_
  refine x_sld (i + 2) G dl_979 rfl hX hz hbl (nI_add i 2) ⟨by omega, by omega⟩ ?_
  refine x_aload0 G dl_980 ?_
  refine x_iload3 G dl_981 ?_
  refine x_iconst (v := nI 3) G dl_982 rfl ?_
  refine x_iadd G dl_983 ?_
  refine x_sld (i + 3) G dl_984 rfl hX hz hbl (nI_add i 3) ⟨by omega, by omega⟩ ?_
  refine m_callV_pr (hB v σ1 hv1) G dl_985 lk_LAW_107 rfl ⟨by decide, rfl⟩ (by decide) (by decide) rfl (Nat.le_of_ble_eq_true rfl) hx (fun v2 σ2 hv2 => ?_)
  refine x_icmp_eq G dl_988 (fun _ => kk σ2 hv2.2) (fun c => absurd hv2.1.symm c)
theorem lc_23 {κ : KX} {N : Nat} {xs : Nat → Int32} (w : LWk κ N xs) (i : Nat) (hi : i + 6 ≤ N) {σ : Sg} (h : LI σ) (kk : ∀ σ2, LI σ2 → X κ NC 1596 (LL i) [] (hv σ2)) : X κ NC 993 (LL i) [] (hv σ) := by
  obtain ⟨G, hx, hk0, hX, hz, hbl, hN⟩ := w
  obtain ⟨P, hA, hB⟩ := q_toll (g := kg κ) h
  refine x_aload1 G dl_993 ?_
  refine m_callV_pr hA G dl_994 lk_LAW_108 rfl ⟨by decide, rfl⟩ (by decide) (by decide) rfl (Nat.le_of_ble_eq_true rfl) hx (fun v σ1 hv1 => ?_)
  refine x_aload2 G dl_997 ?_
  refine m_callV_pr (hB v σ1 hv1) G dl_998 lk_LAW_112 rfl ⟨by decide, rfl⟩ (by decide) (by decide) rfl (Nat.le_of_ble_eq_true rfl) hx (fun v2 σ2 hv2 => ?_)
  refine x_icmp_eq G dl_1001 (fun _ => kk σ2 hv2.2) (fun c => absurd hv2.1.symm c)
theorem lc_24 {κ : KX} {N : Nat} {xs : Nat → Int32} (w : LWk κ N xs) (i : Nat) (hi : i + 6 ≤ N) {σ : Sg} (h : LI σ) (kk : ∀ σ2, LI σ2 → X κ NC 1596 (LL i) [] (hv σ2)) : X κ NC 1006 (LL i) [] (hv σ) := by
  obtain ⟨G, hx, hk0, hX, hz, hbl, hN⟩ := w
  obtain ⟨P, hA, hB⟩ := q_fine (g := kg κ) h (xs (i + 1))
  refine x_aload1 G dl_1006 ?_
  refine x_aload0 G dl_1007 ?_
  refine x_iload3 G dl_1008 ?_
  refine x_iconst (v := nI 1) G dl_1009 rfl ?_
  refine x_iadd G dl_1010 ?_
  refine x_sld (i + 1) G dl_1011 rfl hX hz hbl (nI_add i 1) ⟨by omega, by omega⟩ ?_
  refine m_callV_pr hA G dl_1012 lk_LAW_113 rfl ⟨by decide, rfl⟩ (by decide) (by decide) rfl (Nat.le_of_ble_eq_true rfl) hx (fun v σ1 hv1 => ?_)
  refine x_aload2 G dl_1015 ?_
  refine x_aload0 G dl_1016 ?_
  refine x_iload3 G dl_1017 ?_
  refine x_iconst (v := nI 1) G dl_1018 rfl ?_
  refine x_iadd G dl_1019 ?_
  refine x_sld (i + 1) G dl_1020 rfl hX hz hbl (nI_add i 1) ⟨by omega, by omega⟩ ?_
  refine m_callV_pr (hB v σ1 hv1) G dl_1021 lk_LAW_116 rfl ⟨by decide, rfl⟩ (by decide) (by decide) rfl (Nat.le_of_ble_eq_true rfl) hx (fun v2 σ2 hv2 => ?_)
  refine x_icmp_eq G dl_1024 (fun _ => kk σ2 hv2.2) (fun c => absurd hv2.1.symm c)
theorem lc_25 {κ : KX} {N : Nat} {xs : Nat → Int32} (w : LWk κ N xs) (i : Nat) (hi : i + 6 ≤ N) {σ : Sg} (h : LI σ) (kk : ∀ σ2, LI σ2 → X κ NC 1596 (LL i) [] (hv σ2)) : X κ NC 1029 (LL i) [] (hv σ) := by
  obtain ⟨G, hx, hk0, hX, hz, hbl, hN⟩ := w
  obtain ⟨P, hA, hB⟩ := q_feed (g := kg κ) h (xs (i + 1)) (xs (i + 2)) (xs (i + 3))
  refine x_aload1 G dl_1029 ?_
  refine x_aload0 G dl_1030 ?_
  refine x_iload3 G dl_1031 ?_
  refine x_iconst (v := nI 1) G dl_1032 rfl ?_
  refine x_iadd G dl_1033 ?_
  refine x_sld (i + 1) G dl_1034 rfl hX hz hbl (nI_add i 1) ⟨by omega, by omega⟩ ?_
  refine x_aload0 G dl_1035 ?_
  refine x_iload3 G dl_1036 ?_
  refine x_iconst (v := nI 2) G dl_1037 rfl ?_
  refine x_iadd G dl_1038 ?_
  refine x_sld (i + 2) G dl_1039 rfl hX hz hbl (nI_add i 2) ⟨by omega, by omega⟩ ?_
  refine x_aload0 G dl_1040 ?_
  refine x_iload3 G dl_1041 ?_
  refine x_iconst (v := nI 3) G dl_1042 rfl ?_
  refine x_iadd G dl_1043 ?_
  refine x_sld (i + 3) G dl_1044 rfl hX hz hbl (nI_add i 3) ⟨by omega, by omega⟩ ?_
  refine m_callV_pr hA G dl_1045 lk_LAW_117 rfl ⟨by decide, rfl⟩ (by decide) (by decide) rfl (Nat.le_of_ble_eq_true rfl) hx (fun v σ1 hv1 => ?_)
  refine x_aload2 G dl_1048 ?_
  refine x_aload0 G dl_1049 ?_
  refine x_iload3 G dl_1050 ?_
  refine x_iconst (v := nI 1) G dl_1051 rfl ?_
  refine x_iadd G dl_1052 ?_
  refine x_sld (i + 1) G dl_1053 rfl hX hz hbl (nI_add i 1) ⟨by omega, by omega⟩ ?_
  refine x_aload0 G dl_1054 ?_
  refine x_iload3 G dl_1055 ?_
  refine x_iconst (v := nI 2) G dl_1056 rfl ?_
  refine x_iadd G dl_1057 ?_
  refine x_sld (i + 2) G dl_1058 rfl hX hz hbl (nI_add i 2) ⟨by omega, by omega⟩ ?_
  refine x_aload0 G dl_1059 ?_
  refine x_iload3 G dl_1060 ?_
  refine x_iconst (v := nI 3) G dl_1061 rfl ?_
  refine x_iadd G dl_1062 ?_
  refine x_sld (i + 3) G dl_1063 rfl hX hz hbl (nI_add i 3) ⟨by omega, by omega⟩ ?_
  refine m_callV_pr (hB v σ1 hv1) G dl_1064 lk_LAW_120 rfl ⟨by decide, rfl⟩ (by decide) (by decide) rfl (Nat.le_of_ble_eq_true rfl) hx (fun v2 σ2 hv2 => ?_)
  refine x_icmp_eq G dl_1067 (fun _ => kk σ2 hv2.2) (fun c => absurd hv2.1.symm c)
theorem lc_26 {κ : KX} {N : Nat} {xs : Nat → Int32} (w : LWk κ N xs) (i : Nat) (hi : i + 6 ≤ N) {σ : Sg} (h : LI σ) (kk : ∀ σ2, LI σ2 → X κ NC 1596 (LL i) [] (hv σ2)) : X κ NC 1072 (LL i) [] (hv σ) := by
  obtain ⟨G, hx, hk0, hX, hz, hbl, hN⟩ := w
  obtain ⟨P, hA, hB⟩ := q_trim (g := kg κ) h (xs (i + 1))
  refine x_aload1 G dl_1072 ?_
  refine x_aload0 G dl_1073 ?_
  refine x_iload3 G dl_1074 ?_
  refine x_iconst (v := nI 1) G dl_1075 rfl ?_
  refine x_iadd G dl_1076 ?_
  refine x_sld (i + 1) G dl_1077 rfl hX hz hbl (nI_add i 1) ⟨by omega, by omega⟩ ?_
  refine m_callV_pr hA G dl_1078 lk_LAW_121 rfl ⟨by decide, rfl⟩ (by decide) (by decide) rfl (Nat.le_of_ble_eq_true rfl) hx (fun v σ1 hv1 => ?_)
  refine x_aload2 G dl_1081 ?_
  refine x_aload0 G dl_1082 ?_
  refine x_iload3 G dl_1083 ?_
  refine x_iconst (v := nI 1) G dl_1084 rfl ?_
  refine x_iadd G dl_1085 ?_
  refine x_sld (i + 1) G dl_1086 rfl hX hz hbl (nI_add i 1) ⟨by omega, by omega⟩ ?_
  refine m_callV_pr (hB v σ1 hv1) G dl_1087 lk_LAW_124 rfl ⟨by decide, rfl⟩ (by decide) (by decide) rfl (Nat.le_of_ble_eq_true rfl) hx (fun v2 σ2 hv2 => ?_)
  refine x_icmp_eq G dl_1090 (fun _ => kk σ2 hv2.2) (fun c => absurd hv2.1.symm c)
theorem lc_27 {κ : KX} {N : Nat} {xs : Nat → Int32} (w : LWk κ N xs) (i : Nat) (hi : i + 6 ≤ N) {σ : Sg} (h : LI σ) (kk : ∀ σ2, LI σ2 → X κ NC 1596 (LL i) [] (hv σ2)) : X κ NC 1095 (LL i) [] (hv σ) := by
  obtain ⟨G, hx, hk0, hX, hz, hbl, hN⟩ := w
  obtain ⟨P, hA, hB⟩ := q_text (g := kg κ) h
  refine x_aload1 G dl_1095 ?_
  refine m_callV_pr hA G dl_1096 lk_LAW_125 rfl ⟨by decide, rfl⟩ (by decide) (by decide) rfl (Nat.le_of_ble_eq_true rfl) hx (fun v σ1 hv1 => ?_)
  refine x_aload2 G dl_1099 ?_
  refine m_callV_pr (hB v σ1 hv1) G dl_1100 lk_LAW_128 rfl ⟨by decide, rfl⟩ (by decide) (by decide) rfl (Nat.le_of_ble_eq_true rfl) hx (fun v2 σ2 hv2 => ?_)
  refine x_icmp_eq G dl_1103 (fun _ => kk σ2 hv2.2) (fun c => absurd hv2.1.symm c)
theorem lc_28 {κ : KX} {N : Nat} {xs : Nat → Int32} (w : LWk κ N xs) (i : Nat) (hi : i + 6 ≤ N) {σ : Sg} (h : LI σ) (kk : ∀ σ2, LI σ2 → X κ NC 1596 (LL i) [] (hv σ2)) : X κ NC 1108 (LL i) [] (hv σ) := by
  obtain ⟨G, hx, hk0, hX, hz, hbl, hN⟩ := w
  obtain ⟨P, hA, hB⟩ := q_textTold (g := kg κ) h (xs (i + 1)) (xs (i + 2))
  refine x_aload1 G dl_1108 ?_
  refine x_aload0 G dl_1109 ?_
  refine x_iload3 G dl_1110 ?_
  refine x_iconst (v := nI 1) G dl_1111 rfl ?_
  refine x_iadd G dl_1112 ?_
  refine x_sld (i + 1) G dl_1113 rfl hX hz hbl (nI_add i 1) ⟨by omega, by omega⟩ ?_
  refine x_aload0 G dl_1114 ?_
  refine x_iload3 G dl_1115 ?_
  refine x_iconst (v := nI 2) G dl_1116 rfl ?_
  refine x_iadd G dl_1117 ?_
  refine x_sld (i + 2) G dl_1118 rfl hX hz hbl (nI_add i 2) ⟨by omega, by omega⟩ ?_
  refine m_callV_pr hA G dl_1119 lk_LAW_129 rfl ⟨by decide, rfl⟩ (by decide) (by decide) rfl (Nat.le_of_ble_eq_true rfl) hx (fun v σ1 hv1 => ?_)
  refine x_aload2 G dl_1122 ?_
  refine x_aload0 G dl_1123 ?_
  refine x_iload3 G dl_1124 ?_
  refine x_iconst (v := nI 1) G dl_1125 rfl ?_
  refine x_iadd G dl_1126 ?_
  refine x_sld (i + 1) G dl_1127 rfl hX hz hbl (nI_add i 1) ⟨by omega, by omega⟩ ?_
  refine x_aload0 G dl_1128 ?_
  refine x_iload3 G dl_1129 ?_
  refine x_iconst (v := nI 2) G dl_1130 rfl ?_
  refine x_iadd G dl_1131 ?_
  refine x_sld (i + 2) G dl_1132 rfl hX hz hbl (nI_add i 2) ⟨by omega, by omega⟩ ?_
  refine m_callV_pr (hB v σ1 hv1) G dl_1133 lk_LAW_132 rfl ⟨by decide, rfl⟩ (by decide) (by decide) rfl (Nat.le_of_ble_eq_true rfl) hx (fun v2 σ2 hv2 => ?_)
  refine x_icmp_eq G dl_1136 (fun _ => kk σ2 hv2.2) (fun c => absurd hv2.1.symm c)
theorem lc_29 {κ : KX} {N : Nat} {xs : Nat → Int32} (w : LWk κ N xs) (i : Nat) (hi : i + 6 ≤ N) {σ : Sg} (h : LI σ) (kk : ∀ σ2, LI σ2 → X κ NC 1596 (LL i) [] (hv σ2)) : X κ NC 1141 (LL i) [] (hv σ) := by
  obtain ⟨G, hx, hk0, hX, hz, hbl, hN⟩ := w
  obtain ⟨P, hA, hB⟩ := q_why (g := kg κ) h (xs (i + 1))
  refine x_aload1 G dl_1141 ?_
  refine x_aload0 G dl_1142 ?_
  refine x_iload3 G dl_1143 ?_
  refine x_iconst (v := nI 1) G dl_1144 rfl ?_
  refine x_iadd G dl_1145 ?_
  refine x_sld (i + 1) G dl_1146 rfl hX hz hbl (nI_add i 1) ⟨by omega, by omega⟩ ?_
  refine m_callV_pr hA G dl_1147 lk_LAW_133 rfl ⟨by decide, rfl⟩ (by decide) (by decide) rfl (Nat.le_of_ble_eq_true rfl) hx (fun v σ1 hv1 => ?_)
  refine x_aload2 G dl_1150 ?_
  refine x_aload0 G dl_1151 ?_
  refine x_iload3 G dl_1152 ?_
  refine x_iconst (v := nI 1) G dl_1153 rfl ?_
  refine x_iadd G dl_1154 ?_
  refine x_sld (i + 1) G dl_1155 rfl hX hz hbl (nI_add i 1) ⟨by omega, by omega⟩ ?_
  refine m_callV_pr (hB v σ1 hv1) G dl_1156 lk_LAW_136 rfl ⟨by decide, rfl⟩ (by decide) (by decide) rfl (Nat.le_of_ble_eq_true rfl) hx (fun v2 σ2 hv2 => ?_)
  refine x_icmp_eq G dl_1159 (fun _ => kk σ2 hv2.2) (fun c => absurd hv2.1.symm c)
theorem lc_30 {κ : KX} {N : Nat} {xs : Nat → Int32} (w : LWk κ N xs) (i : Nat) (hi : i + 6 ≤ N) {σ : Sg} (h : LI σ) (kk : ∀ σ2, LI σ2 → X κ NC 1596 (LL i) [] (hv σ2)) : X κ NC 1164 (LL i) [] (hv σ) := by
  obtain ⟨G, hx, hk0, hX, hz, hbl, hN⟩ := w
  obtain ⟨P, hA, hB⟩ := q_sheet (g := kg κ) h (xs (i + 1)) (xs (i + 2)) (xs (i + 3))
  refine x_aload1 G dl_1164 ?_
  refine x_aload0 G dl_1165 ?_
  refine x_iload3 G dl_1166 ?_
  refine x_iconst (v := nI 1) G dl_1167 rfl ?_
  refine x_iadd G dl_1168 ?_
  refine x_sld (i + 1) G dl_1169 rfl hX hz hbl (nI_add i 1) ⟨by omega, by omega⟩ ?_
  refine x_aload0 G dl_1170 ?_
  refine x_iload3 G dl_1171 ?_
  refine x_iconst (v := nI 2) G dl_1172 rfl ?_
  refine x_iadd G dl_1173 ?_
  refine x_sld (i + 2) G dl_1174 rfl hX hz hbl (nI_add i 2) ⟨by omega, by omega⟩ ?_
  refine x_aload0 G dl_1175 ?_
  refine x_iload3 G dl_1176 ?_
  refine x_iconst (v := nI 3) G dl_1177 rfl ?_
  refine x_iadd G dl_1178 ?_
  refine x_sld (i + 3) G dl_1179 rfl hX hz hbl (nI_add i 3) ⟨by omega, by omega⟩ ?_
  refine m_callV_pr hA G dl_1180 lk_LAW_137 rfl ⟨by decide, rfl⟩ (by decide) (by decide) rfl (Nat.le_of_ble_eq_true rfl) hx (fun v σ1 hv1 => ?_)
  refine x_aload2 G dl_1183 ?_
  refine x_aload0 G dl_1184 ?_
  refine x_iload3 G dl_1185 ?_
  refine x_iconst (v := nI 1) G dl_1186 rfl ?_
  refine x_iadd G dl_1187 ?_
  refine x_sld (i + 1) G dl_1188 rfl hX hz hbl (nI_add i 1) ⟨by omega, by omega⟩ ?_
  refine x_aload0 G dl_1189 ?_
  refine x_iload3 G dl_1190 ?_
  refine x_iconst (v := nI 2) G dl_1191 rfl ?_
  refine x_iadd G dl_1192 ?_
  refine x_sld (i + 2) G dl_1193 rfl hX hz hbl (nI_add i 2) ⟨by omega, by omega⟩ ?_
  refine x_aload0 G dl_1194 ?_
  refine x_iload3 G dl_1195 ?_
  refine x_iconst (v := nI 3) G dl_1196 rfl ?_
  refine x_iadd G dl_1197 ?_
  refine x_sld (i + 3) G dl_1198 rfl hX hz hbl (nI_add i 3) ⟨by omega, by omega⟩ ?_
  refine m_callV_pr (hB v σ1 hv1) G dl_1199 lk_LAW_140 rfl ⟨by decide, rfl⟩ (by decide) (by decide) rfl (Nat.le_of_ble_eq_true rfl) hx (fun v2 σ2 hv2 => ?_)
  refine x_icmp_eq G dl_1202 (fun _ => kk σ2 hv2.2) (fun c => absurd hv2.1.symm c)
theorem lc_31 {κ : KX} {N : Nat} {xs : Nat → Int32} (w : LWk κ N xs) (i : Nat) (hi : i + 6 ≤ N) {σ : Sg} (h : LI σ) (kk : ∀ σ2, LI σ2 → X κ NC 1596 (LL i) [] (hv σ2)) : X κ NC 1207 (LL i) [] (hv σ) := by
  obtain ⟨G, hx, hk0, hX, hz, hbl, hN⟩ := w
  obtain ⟨P, hA, hB⟩ := q_mark (g := kg κ) h (xs (i + 1)) (xs (i + 2)) (xs (i + 3))
  refine x_aload1 G dl_1207 ?_
  refine x_aload0 G dl_1208 ?_
  refine x_iload3 G dl_1209 ?_
  refine x_iconst (v := nI 1) G dl_1210 rfl ?_
  refine x_iadd G dl_1211 ?_
  refine x_sld (i + 1) G dl_1212 rfl hX hz hbl (nI_add i 1) ⟨by omega, by omega⟩ ?_
  refine x_aload0 G dl_1213 ?_
  refine x_iload3 G dl_1214 ?_
  refine x_iconst (v := nI 2) G dl_1215 rfl ?_
  refine x_iadd G dl_1216 ?_
  refine x_sld (i + 2) G dl_1217 rfl hX hz hbl (nI_add i 2) ⟨by omega, by omega⟩ ?_
  refine x_aload0 G dl_1218 ?_
  refine x_iload3 G dl_1219 ?_
  refine x_iconst (v := nI 3) G dl_1220 rfl ?_
  refine x_iadd G dl_1221 ?_
  refine x_sld (i + 3) G dl_1222 rfl hX hz hbl (nI_add i 3) ⟨by omega, by omega⟩ ?_
  refine m_callV_pr hA G dl_1223 lk_LAW_141 rfl ⟨by decide, rfl⟩ (by decide) (by decide) rfl (Nat.le_of_ble_eq_true rfl) hx (fun v σ1 hv1 => ?_)
  refine x_aload2 G dl_1226 ?_
  refine x_aload0 G dl_1227 ?_
  refine x_iload3 G dl_1228 ?_
  refine x_iconst (v := nI 1) G dl_1229 rfl ?_
  refine x_iadd G dl_1230 ?_
  refine x_sld (i + 1) G dl_1231 rfl hX hz hbl (nI_add i 1) ⟨by omega, by omega⟩ ?_
  refine x_aload0 G dl_1232 ?_
  refine x_iload3 G dl_1233 ?_
  refine x_iconst (v := nI 2) G dl_1234 rfl ?_
  refine x_iadd G dl_1235 ?_
  refine x_sld (i + 2) G dl_1236 rfl hX hz hbl (nI_add i 2) ⟨by omega, by omega⟩ ?_
  refine x_aload0 G dl_1237 ?_
  refine x_iload3 G dl_1238 ?_
  refine x_iconst (v := nI 3) G dl_1239 rfl ?_
  refine x_iadd G dl_1240 ?_
  refine x_sld (i + 3) G dl_1241 rfl hX hz hbl (nI_add i 3) ⟨by omega, by omega⟩ ?_
  refine m_callV_pr (hB v σ1 hv1) G dl_1242 lk_LAW_144 rfl ⟨by decide, rfl⟩ (by decide) (by decide) rfl (Nat.le_of_ble_eq_true rfl) hx (fun v2 σ2 hv2 => ?_)
  refine x_icmp_eq G dl_1245 (fun _ => kk σ2 hv2.2) (fun c => absurd hv2.1.symm c)
theorem lc_32 {κ : KX} {N : Nat} {xs : Nat → Int32} (w : LWk κ N xs) (i : Nat) (hi : i + 6 ≤ N) {σ : Sg} (h : LI σ) (kk : ∀ σ2, LI σ2 → X κ NC 1596 (LL i) [] (hv σ2)) : X κ NC 1250 (LL i) [] (hv σ) := by
  obtain ⟨G, hx, hk0, hX, hz, hbl, hN⟩ := w
  obtain ⟨P, hA, hB⟩ := q_pour (g := kg κ) h (xs (i + 1))
  refine x_aload1 G dl_1250 ?_
  refine x_aload0 G dl_1251 ?_
  refine x_iload3 G dl_1252 ?_
  refine x_iconst (v := nI 1) G dl_1253 rfl ?_
  refine x_iadd G dl_1254 ?_
  refine x_sld (i + 1) G dl_1255 rfl hX hz hbl (nI_add i 1) ⟨by omega, by omega⟩ ?_
  refine m_callV_pr hA G dl_1256 lk_LAW_145 rfl ⟨by decide, rfl⟩ (by decide) (by decide) rfl (Nat.le_of_ble_eq_true rfl) hx (fun v σ1 hv1 => ?_)
  refine x_aload2 G dl_1259 ?_
  refine x_aload0 G dl_1260 ?_
  refine x_iload3 G dl_1261 ?_
  refine x_iconst (v := nI 1) G dl_1262 rfl ?_
  refine x_iadd G dl_1263 ?_
  refine x_sld (i + 1) G dl_1264 rfl hX hz hbl (nI_add i 1) ⟨by omega, by omega⟩ ?_
  refine m_callV_pr (hB v σ1 hv1) G dl_1265 lk_LAW_148 rfl ⟨by decide, rfl⟩ (by decide) (by decide) rfl (Nat.le_of_ble_eq_true rfl) hx (fun v2 σ2 hv2 => ?_)
  refine x_icmp_eq G dl_1268 (fun _ => kk σ2 hv2.2) (fun c => absurd hv2.1.symm c)
theorem lc_33 {κ : KX} {N : Nat} {xs : Nat → Int32} (w : LWk κ N xs) (i : Nat) (hi : i + 6 ≤ N) {σ : Sg} (h : LI σ) (kk : ∀ σ2, LI σ2 → X κ NC 1596 (LL i) [] (hv σ2)) : X κ NC 1273 (LL i) [] (hv σ) := by
  obtain ⟨G, hx, hk0, hX, hz, hbl, hN⟩ := w
  obtain ⟨P, hA, hB⟩ := q_reads (g := kg κ) h (xs (i + 1))
  refine x_aload1 G dl_1273 ?_
  refine x_aload0 G dl_1274 ?_
  refine x_iload3 G dl_1275 ?_
  refine x_iconst (v := nI 1) G dl_1276 rfl ?_
  refine x_iadd G dl_1277 ?_
  refine x_sld (i + 1) G dl_1278 rfl hX hz hbl (nI_add i 1) ⟨by omega, by omega⟩ ?_
  refine m_callV_pr hA G dl_1279 lk_LAW_149 rfl ⟨by decide, rfl⟩ (by decide) (by decide) rfl (Nat.le_of_ble_eq_true rfl) hx (fun v σ1 hv1 => ?_)
  refine x_aload2 G dl_1282 ?_
  refine x_aload0 G dl_1283 ?_
  refine x_iload3 G dl_1284 ?_
  refine x_iconst (v := nI 1) G dl_1285 rfl ?_
  refine x_iadd G dl_1286 ?_
  refine x_sld (i + 1) G dl_1287 rfl hX hz hbl (nI_add i 1) ⟨by omega, by omega⟩ ?_
  refine m_callV_pr (hB v σ1 hv1) G dl_1288 lk_LAW_152 rfl ⟨by decide, rfl⟩ (by decide) (by decide) rfl (Nat.le_of_ble_eq_true rfl) hx (fun v2 σ2 hv2 => ?_)
  refine x_icmp_eq G dl_1291 (fun _ => kk σ2 hv2.2) (fun c => absurd hv2.1.symm c)
theorem lc_34 {κ : KX} {N : Nat} {xs : Nat → Int32} (w : LWk κ N xs) (i : Nat) (hi : i + 6 ≤ N) {σ : Sg} (h : LI σ) (kk : ∀ σ2, LI σ2 → X κ NC 1596 (LL i) [] (hv σ2)) : X κ NC 1296 (LL i) [] (hv σ) := by
  obtain ⟨G, hx, hk0, hX, hz, hbl, hN⟩ := w
  obtain ⟨P, hA, hB⟩ := q_copy (g := kg κ) h (xs (i + 1)) (xs (i + 2)) (xs (i + 3)) (xs (i + 4)) (xs (i + 5))
  refine x_aload1 G dl_1296 ?_
  refine x_aload0 G dl_1297 ?_
  refine x_iload3 G dl_1298 ?_
  refine x_iconst (v := nI 1) G dl_1299 rfl ?_
  refine x_iadd G dl_1300 ?_
  refine x_sld (i + 1) G dl_1301 rfl hX hz hbl (nI_add i 1) ⟨by omega, by omega⟩ ?_
  refine x_aload0 G dl_1302 ?_
  refine x_iload3 G dl_1303 ?_
  refine x_iconst (v := nI 2) G dl_1304 rfl ?_
  refine x_iadd G dl_1305 ?_
  refine x_sld (i + 2) G dl_1306 rfl hX hz hbl (nI_add i 2) ⟨by omega, by omega⟩ ?_
  refine x_aload0 G dl_1307 ?_
  refine x_iload3 G dl_1308 ?_
  refine x_iconst (v := nI 3) G dl_1309 rfl ?_
  refine x_iadd G dl_1310 ?_
  refine x_sld (i + 3) G dl_1311 rfl hX hz hbl (nI_add i 3) ⟨by omega, by omega⟩ ?_
  refine x_aload0 G dl_1312 ?_
  refine x_iload3 G dl_1313 ?_
  refine x_iconst (v := nI 4) G dl_1314 rfl ?_
  refine x_iadd G dl_1315 ?_
  refine x_sld (i + 4) G dl_1316 rfl hX hz hbl (nI_add i 4) ⟨by omega, by omega⟩ ?_
  refine x_aload0 G dl_1317 ?_
  refine x_iload3 G dl_1318 ?_
  refine x_iconst (v := nI 5) G dl_1319 rfl ?_
  refine x_iadd G dl_1320 ?_
  refine x_sld (i + 5) G dl_1321 rfl hX hz hbl (nI_add i 5) ⟨by omega, by omega⟩ ?_
  refine m_callV_pr hA G dl_1322 lk_LAW_153 rfl ⟨by decide, rfl⟩ (by decide) (by decide) rfl (Nat.le_of_ble_eq_true rfl) hx (fun v σ1 hv1 => ?_)
  refine x_aload2 G dl_1325 ?_
  refine x_aload0 G dl_1326 ?_
  refine x_iload3 G dl_1327 ?_
  refine x_iconst (v := nI 1) G dl_1328 rfl ?_
  refine x_iadd G dl_1329 ?_
  refine x_sld (i + 1) G dl_1330 rfl hX hz hbl (nI_add i 1) ⟨by omega, by omega⟩ ?_
  refine x_aload0 G dl_1331 ?_
  refine x_iload3 G dl_1332 ?_
  refine x_iconst (v := nI 2) G dl_1333 rfl ?_
  refine x_iadd G dl_1334 ?_
  refine x_sld (i + 2) G dl_1335 rfl hX hz hbl (nI_add i 2) ⟨by omega, by omega⟩ ?_
  refine x_aload0 G dl_1336 ?_
  refine x_iload3 G dl_1337 ?_
  refine x_iconst (v := nI 3) G dl_1338 rfl ?_
  refine x_iadd G dl_1339 ?_
  refine x_sld (i + 3) G dl_1340 rfl hX hz hbl (nI_add i 3) ⟨by omega, by omega⟩ ?_
  refine x_aload0 G dl_1341 ?_
  refine x_iload3 G dl_1342 ?_
  refine x_iconst (v := nI 4) G dl_1343 rfl ?_
  refine x_iadd G dl_1344 ?_
  refine x_sld (i + 4) G dl_1345 rfl hX hz hbl (nI_add i 4) ⟨by omega, by omega⟩ ?_
  refine x_aload0 G dl_1346 ?_
  refine x_iload3 G dl_1347 ?_
  refine x_iconst (v := nI 5) G dl_1348 rfl ?_
  refine x_iadd G dl_1349 ?_
  refine x_sld (i + 5) G dl_1350 rfl hX hz hbl (nI_add i 5) ⟨by omega, by omega⟩ ?_
  refine m_callV_pr (hB v σ1 hv1) G dl_1351 lk_LAW_157 rfl ⟨by decide, rfl⟩ (by decide) (by decide) rfl (Nat.le_of_ble_eq_true rfl) hx (fun v2 σ2 hv2 => ?_)
  refine x_icmp_eq G dl_1354 (fun _ => kk σ2 hv2.2) (fun c => absurd hv2.1.symm c)
theorem lc_35 {κ : KX} {N : Nat} {xs : Nat → Int32} (w : LWk κ N xs) (i : Nat) (hi : i + 6 ≤ N) {σ : Sg} (h : LI σ) (kk : ∀ σ2, LI σ2 → X κ NC 1596 (LL i) [] (hv σ2)) : X κ NC 1359 (LL i) [] (hv σ) := by
  obtain ⟨G, hx, hk0, hX, hz, hbl, hN⟩ := w
  obtain ⟨P, hA, hB⟩ := q_lay (g := kg κ) h (xs (i + 1)) (xs (i + 2)) (xs (i + 3))
  refine x_aload1 G dl_1359 ?_
  refine x_aload0 G dl_1360 ?_
  refine x_iload3 G dl_1361 ?_
  refine x_iconst (v := nI 1) G dl_1362 rfl ?_
  refine x_iadd G dl_1363 ?_
  refine x_sld (i + 1) G dl_1364 rfl hX hz hbl (nI_add i 1) ⟨by omega, by omega⟩ ?_
  refine x_aload0 G dl_1365 ?_
  refine x_iload3 G dl_1366 ?_
  refine x_iconst (v := nI 2) G dl_1367 rfl ?_
  refine x_iadd G dl_1368 ?_
  refine x_sld (i + 2) G dl_1369 rfl hX hz hbl (nI_add i 2) ⟨by omega, by omega⟩ ?_
  refine x_aload0 G dl_1370 ?_
  refine x_iload3 G dl_1371 ?_
  refine x_iconst (v := nI 3) G dl_1372 rfl ?_
  refine x_iadd G dl_1373 ?_
  refine x_sld (i + 3) G dl_1374 rfl hX hz hbl (nI_add i 3) ⟨by omega, by omega⟩ ?_
  refine m_callV_pr hA G dl_1375 lk_LAW_158 rfl ⟨by decide, rfl⟩ (by decide) (by decide) rfl (Nat.le_of_ble_eq_true rfl) hx (fun v σ1 hv1 => ?_)
  refine x_aload2 G dl_1378 ?_
  refine x_aload0 G dl_1379 ?_
  refine x_iload3 G dl_1380 ?_
  refine x_iconst (v := nI 1) G dl_1381 rfl ?_
  refine x_iadd G dl_1382 ?_
  refine x_sld (i + 1) G dl_1383 rfl hX hz hbl (nI_add i 1) ⟨by omega, by omega⟩ ?_
  refine x_aload0 G dl_1384 ?_
  refine x_iload3 G dl_1385 ?_
  refine x_iconst (v := nI 2) G dl_1386 rfl ?_
  refine x_iadd G dl_1387 ?_
  refine x_sld (i + 2) G dl_1388 rfl hX hz hbl (nI_add i 2) ⟨by omega, by omega⟩ ?_
  refine x_aload0 G dl_1389 ?_
  refine x_iload3 G dl_1390 ?_
  refine x_iconst (v := nI 3) G dl_1391 rfl ?_
  refine x_iadd G dl_1392 ?_
  refine x_sld (i + 3) G dl_1393 rfl hX hz hbl (nI_add i 3) ⟨by omega, by omega⟩ ?_
  refine m_callV_pr (hB v σ1 hv1) G dl_1394 lk_LAW_161 rfl ⟨by decide, rfl⟩ (by decide) (by decide) rfl (Nat.le_of_ble_eq_true rfl) hx (fun v2 σ2 hv2 => ?_)
  refine x_icmp_eq G dl_1397 (fun _ => kk σ2 hv2.2) (fun c => absurd hv2.1.symm c)
theorem lc_36 {κ : KX} {N : Nat} {xs : Nat → Int32} (w : LWk κ N xs) (i : Nat) (hi : i + 6 ≤ N) {σ : Sg} (h : LI σ) (kk : ∀ σ2, LI σ2 → X κ NC 1596 (LL i) [] (hv σ2)) : X κ NC 1402 (LL i) [] (hv σ) := by
  obtain ⟨G, hx, hk0, hX, hz, hbl, hN⟩ := w
  obtain ⟨P, hA, hB⟩ := q_ask (g := kg κ) h (xs (i + 1)) (xs (i + 2))
  refine x_aload1 G dl_1402 ?_
  refine x_aload0 G dl_1403 ?_
  refine x_iload3 G dl_1404 ?_
  refine x_iconst (v := nI 1) G dl_1405 rfl ?_
  refine x_iadd G dl_1406 ?_
  refine x_sld (i + 1) G dl_1407 rfl hX hz hbl (nI_add i 1) ⟨by omega, by omega⟩ ?_
  refine x_aload0 G dl_1408 ?_
  refine x_iload3 G dl_1409 ?_
  refine x_iconst (v := nI 2) G dl_1410 rfl ?_
  refine x_iadd G dl_1411 ?_
  refine x_sld (i + 2) G dl_1412 rfl hX hz hbl (nI_add i 2) ⟨by omega, by omega⟩ ?_
  refine m_callV_pr hA G dl_1413 lk_LAW_162 rfl ⟨by decide, rfl⟩ (by decide) (by decide) rfl (Nat.le_of_ble_eq_true rfl) hx (fun v σ1 hv1 => ?_)
  refine x_aload2 G dl_1416 ?_
  refine x_aload0 G dl_1417 ?_
  refine x_iload3 G dl_1418 ?_
  refine x_iconst (v := nI 1) G dl_1419 rfl ?_
  refine x_iadd G dl_1420 ?_
  refine x_sld (i + 1) G dl_1421 rfl hX hz hbl (nI_add i 1) ⟨by omega, by omega⟩ ?_
  refine x_aload0 G dl_1422 ?_
  refine x_iload3 G dl_1423 ?_
  refine x_iconst (v := nI 2) G dl_1424 rfl ?_
  refine x_iadd G dl_1425 ?_
  refine x_sld (i + 2) G dl_1426 rfl hX hz hbl (nI_add i 2) ⟨by omega, by omega⟩ ?_
  refine m_callV_pr (hB v σ1 hv1) G dl_1427 lk_LAW_165 rfl ⟨by decide, rfl⟩ (by decide) (by decide) rfl (Nat.le_of_ble_eq_true rfl) hx (fun v2 σ2 hv2 => ?_)
  refine x_icmp_eq G dl_1430 (fun _ => kk σ2 hv2.2) (fun c => absurd hv2.1.symm c)
theorem lc_37 {κ : KX} {N : Nat} {xs : Nat → Int32} (w : LWk κ N xs) (i : Nat) (hi : i + 6 ≤ N) {σ : Sg} (h : LI σ) (kk : ∀ σ2, LI σ2 → X κ NC 1596 (LL i) [] (hv σ2)) : X κ NC 1435 (LL i) [] (hv σ) := by
  obtain ⟨G, hx, hk0, hX, hz, hbl, hN⟩ := w
  obtain ⟨P, hA, hB⟩ := q_item (g := kg κ) h (xs (i + 1)) (xs (i + 2))
  refine x_aload1 G dl_1435 ?_
  refine x_aload0 G dl_1436 ?_
  refine x_iload3 G dl_1437 ?_
  refine x_iconst (v := nI 1) G dl_1438 rfl ?_
  refine x_iadd G dl_1439 ?_
  refine x_sld (i + 1) G dl_1440 rfl hX hz hbl (nI_add i 1) ⟨by omega, by omega⟩ ?_
  refine x_aload0 G dl_1441 ?_
  refine x_iload3 G dl_1442 ?_
  refine x_iconst (v := nI 2) G dl_1443 rfl ?_
  refine x_iadd G dl_1444 ?_
  refine x_sld (i + 2) G dl_1445 rfl hX hz hbl (nI_add i 2) ⟨by omega, by omega⟩ ?_
  refine m_callV_pr hA G dl_1446 lk_LAW_166 rfl ⟨by decide, rfl⟩ (by decide) (by decide) rfl (Nat.le_of_ble_eq_true rfl) hx (fun v σ1 hv1 => ?_)
  refine x_aload2 G dl_1449 ?_
  refine x_aload0 G dl_1450 ?_
  refine x_iload3 G dl_1451 ?_
  refine x_iconst (v := nI 1) G dl_1452 rfl ?_
  refine x_iadd G dl_1453 ?_
  refine x_sld (i + 1) G dl_1454 rfl hX hz hbl (nI_add i 1) ⟨by omega, by omega⟩ ?_
  refine x_aload0 G dl_1455 ?_
  refine x_iload3 G dl_1456 ?_
  refine x_iconst (v := nI 2) G dl_1457 rfl ?_
  refine x_iadd G dl_1458 ?_
  refine x_sld (i + 2) G dl_1459 rfl hX hz hbl (nI_add i 2) ⟨by omega, by omega⟩ ?_
  refine m_callV_pr (hB v σ1 hv1) G dl_1460 lk_LAW_169 rfl ⟨by decide, rfl⟩ (by decide) (by decide) rfl (Nat.le_of_ble_eq_true rfl) hx (fun v2 σ2 hv2 => ?_)
  refine x_icmp_eq G dl_1463 (fun _ => kk σ2 hv2.2) (fun c => absurd hv2.1.symm c)
theorem lc_38 {κ : KX} {N : Nat} {xs : Nat → Int32} (w : LWk κ N xs) (i : Nat) (hi : i + 6 ≤ N) {σ : Sg} (h : LI σ) (kk : ∀ σ2, LI σ2 → X κ NC 1596 (LL i) [] (hv σ2)) : X κ NC 1468 (LL i) [] (hv σ) := by
  obtain ⟨G, hx, hk0, hX, hz, hbl, hN⟩ := w
  obtain ⟨P, hA, hB⟩ := q_rest (g := kg κ) h (xs (i + 1)) (xs (i + 2))
  refine x_aload1 G dl_1468 ?_
  refine x_aload0 G dl_1469 ?_
  refine x_iload3 G dl_1470 ?_
  refine x_iconst (v := nI 1) G dl_1471 rfl ?_
  refine x_iadd G dl_1472 ?_
  refine x_sld (i + 1) G dl_1473 rfl hX hz hbl (nI_add i 1) ⟨by omega, by omega⟩ ?_
  refine x_aload0 G dl_1474 ?_
  refine x_iload3 G dl_1475 ?_
  refine x_iconst (v := nI 2) G dl_1476 rfl ?_
  refine x_iadd G dl_1477 ?_
  refine x_sld (i + 2) G dl_1478 rfl hX hz hbl (nI_add i 2) ⟨by omega, by omega⟩ ?_
  refine m_callV_pr hA G dl_1479 lk_LAW_170 rfl ⟨by decide, rfl⟩ (by decide) (by decide) rfl (Nat.le_of_ble_eq_true rfl) hx (fun v σ1 hv1 => ?_)
  refine x_aload2 G dl_1482 ?_
  refine x_aload0 G dl_1483 ?_
  refine x_iload3 G dl_1484 ?_
  refine x_iconst (v := nI 1) G dl_1485 rfl ?_
  refine x_iadd G dl_1486 ?_
  refine x_sld (i + 1) G dl_1487 rfl hX hz hbl (nI_add i 1) ⟨by omega, by omega⟩ ?_
  refine x_aload0 G dl_1488 ?_
  refine x_iload3 G dl_1489 ?_
  refine x_iconst (v := nI 2) G dl_1490 rfl ?_
  refine x_iadd G dl_1491 ?_
  refine x_sld (i + 2) G dl_1492 rfl hX hz hbl (nI_add i 2) ⟨by omega, by omega⟩ ?_
  refine m_callV_pr (hB v σ1 hv1) G dl_1493 lk_LAW_173 rfl ⟨by decide, rfl⟩ (by decide) (by decide) rfl (Nat.le_of_ble_eq_true rfl) hx (fun v2 σ2 hv2 => ?_)
  refine x_icmp_eq G dl_1496 (fun _ => kk σ2 hv2.2) (fun c => absurd hv2.1.symm c)
theorem lc_39 {κ : KX} {N : Nat} {xs : Nat → Int32} (w : LWk κ N xs) (i : Nat) (hi : i + 6 ≤ N) {σ : Sg} (h : LI σ) (kk : ∀ σ2, LI σ2 → X κ NC 1596 (LL i) [] (hv σ2)) : X κ NC 1501 (LL i) [] (hv σ) := by
  obtain ⟨G, hx, hk0, hX, hz, hbl, hN⟩ := w
  obtain ⟨P, hA, hB⟩ := q_tell (g := kg κ) h (xs (i + 1))
  refine x_aload1 G dl_1501 ?_
  refine x_aload0 G dl_1502 ?_
  refine x_iload3 G dl_1503 ?_
  refine x_iconst (v := nI 1) G dl_1504 rfl ?_
  refine x_iadd G dl_1505 ?_
  refine x_sld (i + 1) G dl_1506 rfl hX hz hbl (nI_add i 1) ⟨by omega, by omega⟩ ?_
  refine m_callV_pr hA G dl_1507 lk_LAW_174 rfl ⟨by decide, rfl⟩ (by decide) (by decide) rfl (Nat.le_of_ble_eq_true rfl) hx (fun v σ1 hv1 => ?_)
  refine x_aload2 G dl_1510 ?_
  refine x_aload0 G dl_1511 ?_
  refine x_iload3 G dl_1512 ?_
  refine x_iconst (v := nI 1) G dl_1513 rfl ?_
  refine x_iadd G dl_1514 ?_
  refine x_sld (i + 1) G dl_1515 rfl hX hz hbl (nI_add i 1) ⟨by omega, by omega⟩ ?_
  refine m_callV_pr (hB v σ1 hv1) G dl_1516 lk_LAW_177 rfl ⟨by decide, rfl⟩ (by decide) (by decide) rfl (Nat.le_of_ble_eq_true rfl) hx (fun v2 σ2 hv2 => ?_)
  refine x_icmp_eq G dl_1519 (fun _ => kk σ2 hv2.2) (fun c => absurd hv2.1.symm c)
theorem lc_40 {κ : KX} {N : Nat} {xs : Nat → Int32} (w : LWk κ N xs) (i : Nat) (hi : i + 6 ≤ N) {σ : Sg} (h : LI σ) (kk : ∀ σ2, LI σ2 → X κ NC 1596 (LL i) [] (hv σ2)) : X κ NC 1524 (LL i) [] (hv σ) := by
  obtain ⟨G, hx, hk0, hX, hz, hbl, hN⟩ := w
  obtain ⟨P, hA, hB⟩ := q_check (g := kg κ) h (xs (i + 1))
  refine x_aload1 G dl_1524 ?_
  refine x_aload0 G dl_1525 ?_
  refine x_iload3 G dl_1526 ?_
  refine x_iconst (v := nI 1) G dl_1527 rfl ?_
  refine x_iadd G dl_1528 ?_
  refine x_sld (i + 1) G dl_1529 rfl hX hz hbl (nI_add i 1) ⟨by omega, by omega⟩ ?_
  refine m_callV_pr hA G dl_1530 lk_LAW_178 rfl ⟨by decide, rfl⟩ (by decide) (by decide) rfl (Nat.le_of_ble_eq_true rfl) hx (fun v σ1 hv1 => ?_)
  refine x_aload2 G dl_1533 ?_
  refine x_aload0 G dl_1534 ?_
  refine x_iload3 G dl_1535 ?_
  refine x_iconst (v := nI 1) G dl_1536 rfl ?_
  refine x_iadd G dl_1537 ?_
  refine x_sld (i + 1) G dl_1538 rfl hX hz hbl (nI_add i 1) ⟨by omega, by omega⟩ ?_
  refine m_callV_pr (hB v σ1 hv1) G dl_1539 lk_LAW_181 rfl ⟨by decide, rfl⟩ (by decide) (by decide) rfl (Nat.le_of_ble_eq_true rfl) hx (fun v2 σ2 hv2 => ?_)
  refine x_icmp_eq G dl_1542 (fun _ => kk σ2 hv2.2) (fun c => absurd hv2.1.symm c)
theorem lc_41 {κ : KX} {N : Nat} {xs : Nat → Int32} (w : LWk κ N xs) (i : Nat) (hi : i + 6 ≤ N) {σ : Sg} (h : LI σ) (kk : ∀ σ2, LI σ2 → X κ NC 1596 (LL i) [] (hv σ2)) : X κ NC 1547 (LL i) [] (hv σ) := by
  obtain ⟨G, hx, hk0, hX, hz, hbl, hN⟩ := w
  obtain ⟨P, hA, hB⟩ := q_keep (g := kg κ) h
  refine x_aload1 G dl_1547 ?_
  refine m_callV_pr hA G dl_1548 lk_LAW_182 rfl ⟨by decide, rfl⟩ (by decide) (by decide) rfl (Nat.le_of_ble_eq_true rfl) hx (fun v σ1 hv1 => ?_)
  refine x_aload2 G dl_1551 ?_
  refine m_callV_pr (hB v σ1 hv1) G dl_1552 lk_LAW_185 rfl ⟨by decide, rfl⟩ (by decide) (by decide) rfl (Nat.le_of_ble_eq_true rfl) hx (fun v2 σ2 hv2 => ?_)
  refine x_icmp_eq G dl_1555 (fun _ => kk σ2 hv2.2) (fun c => absurd hv2.1.symm c)
theorem lc_42 {κ : KX} {N : Nat} {xs : Nat → Int32} (w : LWk κ N xs) (i : Nat) (hi : i + 6 ≤ N) {σ : Sg} (h : LI σ) (kk : ∀ σ2, LI σ2 → X κ NC 1596 (LL i) [] (hv σ2)) : X κ NC 1560 (LL i) [] (hv σ) := by
  obtain ⟨G, hx, hk0, hX, hz, hbl, hN⟩ := w
  obtain ⟨P, hA, hB⟩ := q_back (g := kg κ) h
  refine x_aload1 G dl_1560 ?_
  refine m_callV_pr hA G dl_1561 lk_LAW_186 rfl ⟨by decide, rfl⟩ (by decide) (by decide) rfl (Nat.le_of_ble_eq_true rfl) hx (fun v σ1 hv1 => ?_)
  refine x_aload2 G dl_1564 ?_
  refine m_callV_pr (hB v σ1 hv1) G dl_1565 lk_LAW_189 rfl ⟨by decide, rfl⟩ (by decide) (by decide) rfl (Nat.le_of_ble_eq_true rfl) hx (fun v2 σ2 hv2 => ?_)
  refine x_icmp_eq G dl_1568 (fun _ => kk σ2 hv2.2) (fun c => absurd hv2.1.symm c)
theorem lc_43 {κ : KX} {N : Nat} {xs : Nat → Int32} (w : LWk κ N xs) (i : Nat) (hi : i + 6 ≤ N) {σ : Sg} (h : LI σ) (kk : ∀ σ2, LI σ2 → X κ NC 1596 (LL i) [] (hv σ2)) : X κ NC 1573 (LL i) [] (hv σ) := by
  obtain ⟨G, hx, hk0, hX, hz, hbl, hN⟩ := w
  obtain ⟨P, hA, hB⟩ := q_count (g := kg κ) h (xs (i + 1))
  refine x_aload1 G dl_1573 ?_
  refine x_aload0 G dl_1574 ?_
  refine x_iload3 G dl_1575 ?_
  refine x_iconst (v := nI 1) G dl_1576 rfl ?_
  refine x_iadd G dl_1577 ?_
  refine x_sld (i + 1) G dl_1578 rfl hX hz hbl (nI_add i 1) ⟨by omega, by omega⟩ ?_
  refine m_callV_pr hA G dl_1579 lk_LAW_190 rfl ⟨by decide, rfl⟩ (by decide) (by decide) rfl (Nat.le_of_ble_eq_true rfl) hx (fun v σ1 hv1 => ?_)
  refine x_aload2 G dl_1582 ?_
  refine x_aload0 G dl_1583 ?_
  refine x_iload3 G dl_1584 ?_
  refine x_iconst (v := nI 1) G dl_1585 rfl ?_
  refine x_iadd G dl_1586 ?_
  refine x_sld (i + 1) G dl_1587 rfl hX hz hbl (nI_add i 1) ⟨by omega, by omega⟩ ?_
  refine m_callV_pr (hB v σ1 hv1) G dl_1588 lk_LAW_193 rfl ⟨by decide, rfl⟩ (by decide) (by decide) rfl (Nat.le_of_ble_eq_true rfl) hx (fun v2 σ2 hv2 => ?_)
  refine x_icmp_eq G dl_1591 (fun _ => kk σ2 hv2.2) (fun c => absurd hv2.1.symm c)
