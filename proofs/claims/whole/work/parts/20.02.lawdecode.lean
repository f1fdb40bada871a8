theorem dL_232 : decode code 232 = .ok (.if_icmp .eq 417, 3) := by decide +kernel
theorem dL_235 : decode code 235 = .ok (.iconst 0, 1) := by decide +kernel
theorem dL_236 : decode code 236 = .ok (.ireturn, 1) := by decide +kernel
theorem dL_237 : decode code 237 = .ok (.aload_n 1, 1) := by decide +kernel
theorem dL_238 : decode code 238 = .ok (.invokevirtual 27, 3) := by decide +kernel
theorem dL_241 : decode code 241 = .ok (.aload_n 2, 1) := by decide +kernel
theorem dL_242 : decode code 242 = .ok (.invokevirtual 31, 3) := by decide +kernel
theorem dL_245 : decode code 245 = .ok (.if_icmp .eq 404, 3) := by decide +kernel
theorem dL_248 : decode code 248 = .ok (.iconst 0, 1) := by decide +kernel
theorem dL_249 : decode code 249 = .ok (.ireturn, 1) := by decide +kernel
theorem dL_250 : decode code 250 = .ok (.aload_n 1, 1) := by decide +kernel
theorem dL_251 : decode code 251 = .ok (.invokevirtual 32, 3) := by decide +kernel
theorem dL_254 : decode code 254 = .ok (.aload_n 2, 1) := by decide +kernel
theorem dL_255 : decode code 255 = .ok (.invokevirtual 35, 3) := by decide +kernel
theorem dL_258 : decode code 258 = .ok (.if_icmp .eq 391, 3) := by decide +kernel
theorem dL_261 : decode code 261 = .ok (.iconst 0, 1) := by decide +kernel
theorem dL_262 : decode code 262 = .ok (.ireturn, 1) := by decide +kernel
theorem dL_263 : decode code 263 = .ok (.aload_n 1, 1) := by decide +kernel
theorem dL_264 : decode code 264 = .ok (.aload_n 0, 1) := by decide +kernel
theorem dL_265 : decode code 265 = .ok (.iload_n 3, 1) := by decide +kernel
theorem dL_266 : decode code 266 = .ok (.iconst 1, 1) := by decide +kernel
theorem dL_267 : decode code 267 = .ok (.iadd, 1) := by decide +kernel
theorem dL_268 : decode code 268 = .ok (.iaload, 1) := by decide +kernel
theorem dL_269 : decode code 269 = .ok (.aload_n 0, 1) := by decide +kernel
theorem dL_270 : decode code 270 = .ok (.iload_n 3, 1) := by decide +kernel
theorem dL_271 : decode code 271 = .ok (.iconst 2, 1) := by decide +kernel
theorem dL_272 : decode code 272 = .ok (.iadd, 1) := by decide +kernel
theorem dL_273 : decode code 273 = .ok (.iaload, 1) := by decide +kernel
theorem dL_274 : decode code 274 = .ok (.invokevirtual 36, 3) := by decide +kernel
theorem dL_277 : decode code 277 = .ok (.aload_n 2, 1) := by decide +kernel
theorem dL_278 : decode code 278 = .ok (.aload_n 0, 1) := by decide +kernel
theorem dL_279 : decode code 279 = .ok (.iload_n 3, 1) := by decide +kernel
theorem dL_280 : decode code 280 = .ok (.iconst 1, 1) := by decide +kernel
theorem dL_281 : decode code 281 = .ok (.iadd, 1) := by decide +kernel
theorem dL_282 : decode code 282 = .ok (.iaload, 1) := by decide +kernel
theorem dL_283 : decode code 283 = .ok (.aload_n 0, 1) := by decide +kernel
theorem dL_284 : decode code 284 = .ok (.iload_n 3, 1) := by decide +kernel
theorem dL_285 : decode code 285 = .ok (.iconst 2, 1) := by decide +kernel
theorem dL_286 : decode code 286 = .ok (.iadd, 1) := by decide +kernel
theorem dL_287 : decode code 287 = .ok (.iaload, 1) := by decide +kernel
theorem dL_288 : decode code 288 = .ok (.invokevirtual 39, 3) := by decide +kernel
theorem dL_291 : decode code 291 = .ok (.if_icmp .eq 358, 3) := by decide +kernel
theorem dL_294 : decode code 294 = .ok (.iconst 0, 1) := by decide +kernel
theorem dL_295 : decode code 295 = .ok (.ireturn, 1) := by decide +kernel
theorem dL_296 : decode code 296 = .ok (.aload_n 1, 1) := by decide +kernel
theorem dL_297 : decode code 297 = .ok (.aload_n 0, 1) := by decide +kernel
theorem dL_298 : decode code 298 = .ok (.iload_n 3, 1) := by decide +kernel
theorem dL_299 : decode code 299 = .ok (.iconst 1, 1) := by decide +kernel
theorem dL_300 : decode code 300 = .ok (.iadd, 1) := by decide +kernel
theorem dL_301 : decode code 301 = .ok (.iaload, 1) := by decide +kernel
theorem dL_302 : decode code 302 = .ok (.aload_n 0, 1) := by decide +kernel
theorem dL_303 : decode code 303 = .ok (.iload_n 3, 1) := by decide +kernel
theorem dL_304 : decode code 304 = .ok (.iconst 2, 1) := by decide +kernel
theorem dL_305 : decode code 305 = .ok (.iadd, 1) := by decide +kernel
theorem dL_306 : decode code 306 = .ok (.iaload, 1) := by decide +kernel
theorem dL_307 : decode code 307 = .ok (.invokevirtual 40, 3) := by decide +kernel
theorem dL_310 : decode code 310 = .ok (.aload_n 2, 1) := by decide +kernel
theorem dL_311 : decode code 311 = .ok (.aload_n 0, 1) := by decide +kernel
theorem dL_312 : decode code 312 = .ok (.iload_n 3, 1) := by decide +kernel
theorem dL_313 : decode code 313 = .ok (.iconst 1, 1) := by decide +kernel
theorem dL_314 : decode code 314 = .ok (.iadd, 1) := by decide +kernel
theorem dL_315 : decode code 315 = .ok (.iaload, 1) := by decide +kernel
theorem dL_316 : decode code 316 = .ok (.aload_n 0, 1) := by decide +kernel
theorem dL_317 : decode code 317 = .ok (.iload_n 3, 1) := by decide +kernel
theorem dL_318 : decode code 318 = .ok (.iconst 2, 1) := by decide +kernel
theorem dL_319 : decode code 319 = .ok (.iadd, 1) := by decide +kernel
theorem dL_320 : decode code 320 = .ok (.iaload, 1) := by decide +kernel
theorem dL_321 : decode code 321 = .ok (.invokevirtual 43, 3) := by decide +kernel
theorem dL_324 : decode code 324 = .ok (.if_icmp .eq 325, 3) := by decide +kernel
theorem dL_327 : decode code 327 = .ok (.iconst 0, 1) := by decide +kernel
theorem dL_328 : decode code 328 = .ok (.ireturn, 1) := by decide +kernel
theorem dL_329 : decode code 329 = .ok (.aload_n 1, 1) := by decide +kernel
theorem dL_330 : decode code 330 = .ok (.invokevirtual 44, 3) := by decide +kernel
theorem dL_333 : decode code 333 = .ok (.aload_n 2, 1) := by decide +kernel
theorem dL_334 : decode code 334 = .ok (.invokevirtual 48, 3) := by decide +kernel
theorem dL_337 : decode code 337 = .ok (.if_icmp .eq 312, 3) := by decide +kernel
theorem dL_340 : decode code 340 = .ok (.iconst 0, 1) := by decide +kernel
theorem dL_341 : decode code 341 = .ok (.ireturn, 1) := by decide +kernel
theorem dL_342 : decode code 342 = .ok (.aload_n 1, 1) := by decide +kernel
theorem dL_343 : decode code 343 = .ok (.aload_n 0, 1) := by decide +kernel
theorem dL_344 : decode code 344 = .ok (.iload_n 3, 1) := by decide +kernel
theorem dL_345 : decode code 345 = .ok (.iconst 1, 1) := by decide +kernel
theorem dL_346 : decode code 346 = .ok (.iadd, 1) := by decide +kernel
theorem dL_347 : decode code 347 = .ok (.iaload, 1) := by decide +kernel
theorem dL_348 : decode code 348 = .ok (.invokevirtual 49, 3) := by decide +kernel
theorem dL_351 : decode code 351 = .ok (.aload_n 2, 1) := by decide +kernel
theorem dL_352 : decode code 352 = .ok (.aload_n 0, 1) := by decide +kernel
theorem dL_353 : decode code 353 = .ok (.iload_n 3, 1) := by decide +kernel
theorem dL_354 : decode code 354 = .ok (.iconst 1, 1) := by decide +kernel
theorem dL_355 : decode code 355 = .ok (.iadd, 1) := by decide +kernel
theorem dL_356 : decode code 356 = .ok (.iaload, 1) := by decide +kernel
theorem dL_357 : decode code 357 = .ok (.invokevirtual 53, 3) := by decide +kernel
theorem dL_360 : decode code 360 = .ok (.if_icmp .eq 289, 3) := by decide +kernel
theorem dL_363 : decode code 363 = .ok (.iconst 0, 1) := by decide +kernel
theorem dL_364 : decode code 364 = .ok (.ireturn, 1) := by decide +kernel
theorem dL_365 : decode code 365 = .ok (.aload_n 1, 1) := by decide +kernel
theorem dL_366 : decode code 366 = .ok (.aload_n 0, 1) := by decide +kernel
theorem dL_367 : decode code 367 = .ok (.iload_n 3, 1) := by decide +kernel
theorem dL_368 : decode code 368 = .ok (.iconst 1, 1) := by decide +kernel
theorem dL_369 : decode code 369 = .ok (.iadd, 1) := by decide +kernel
theorem dL_370 : decode code 370 = .ok (.iaload, 1) := by decide +kernel
theorem dL_371 : decode code 371 = .ok (.invokevirtual 54, 3) := by decide +kernel
theorem dL_374 : decode code 374 = .ok (.aload_n 2, 1) := by decide +kernel
theorem dL_375 : decode code 375 = .ok (.aload_n 0, 1) := by decide +kernel
theorem dL_376 : decode code 376 = .ok (.iload_n 3, 1) := by decide +kernel
theorem dL_377 : decode code 377 = .ok (.iconst 1, 1) := by decide +kernel
theorem dL_378 : decode code 378 = .ok (.iadd, 1) := by decide +kernel
theorem dL_379 : decode code 379 = .ok (.iaload, 1) := by decide +kernel
theorem dL_380 : decode code 380 = .ok (.invokevirtual 57, 3) := by decide +kernel
theorem dL_383 : decode code 383 = .ok (.if_icmp .eq 266, 3) := by decide +kernel
