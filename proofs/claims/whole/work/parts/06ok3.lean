set_option maxRecDepth 20000 in
theorem ok_283 : qgood 283 := ⟨by decide +kernel, rfl, by decide +kernel⟩
set_option maxRecDepth 20000 in
theorem ok_284 : qgood 284 := ⟨by decide +kernel, rfl, by decide +kernel⟩
set_option maxRecDepth 20000 in
theorem ok_285 : qgood 285 := ⟨by decide +kernel, rfl, by decide +kernel⟩
set_option maxRecDepth 20000 in
theorem ok_286 : qgood 286 := ⟨by decide +kernel, rfl, by decide +kernel⟩
set_option maxRecDepth 20000 in
theorem ok_287 : qgood 287 := ⟨by decide +kernel, rfl, by decide +kernel⟩
set_option maxRecDepth 20000 in
theorem ok_288 : qgood 288 := ⟨by decide +kernel, rfl, by decide +kernel⟩
set_option maxRecDepth 20000 in
theorem ok_289 : qgood 289 := ⟨by decide +kernel, rfl, by decide +kernel⟩
set_option maxRecDepth 20000 in
theorem ok_290 : qgood 290 := ⟨by decide +kernel, rfl, by decide +kernel⟩
set_option maxRecDepth 20000 in
theorem ok_291 : qgood 291 := ⟨by decide +kernel, rfl, by decide +kernel⟩
set_option maxRecDepth 20000 in
theorem ok_292 : qgood 292 := ⟨by decide +kernel, rfl, by decide +kernel⟩
set_option maxRecDepth 20000 in
theorem ok_293 : qgood 293 := ⟨by decide +kernel, rfl, by decide +kernel⟩
set_option maxRecDepth 20000 in
theorem ok_294 : qgood 294 := ⟨by decide +kernel, rfl, by decide +kernel⟩
set_option maxRecDepth 20000 in
theorem ok_295 : qgood 295 := ⟨by decide +kernel, rfl, by decide +kernel⟩
set_option maxRecDepth 20000 in
theorem ok_296 : qgood 296 := ⟨by decide +kernel, rfl, by decide +kernel⟩
set_option maxRecDepth 20000 in
theorem ok_297 : qgood 297 := ⟨by decide +kernel, rfl, by decide +kernel⟩
set_option maxRecDepth 20000 in
theorem ok_298 : qgood 298 := ⟨by decide +kernel, rfl, by decide +kernel⟩
set_option maxRecDepth 20000 in
theorem ok_299 : qgood 299 := ⟨by decide +kernel, rfl, by decide +kernel⟩
set_option maxRecDepth 20000 in
theorem ok_300 : qgood 300 := ⟨by decide +kernel, rfl, by decide +kernel⟩
set_option maxRecDepth 20000 in
theorem ok_301 : qgood 301 := ⟨by decide +kernel, rfl, by decide +kernel⟩
set_option maxRecDepth 20000 in
theorem ok_302 : qgood 302 := ⟨by decide +kernel, rfl, by decide +kernel⟩
set_option maxRecDepth 20000 in
theorem ok_303 : qgood 303 := ⟨by decide +kernel, rfl, by decide +kernel⟩
set_option maxRecDepth 20000 in
theorem ok_304 : qgood 304 := ⟨by decide +kernel, rfl, by decide +kernel⟩
set_option maxRecDepth 20000 in
theorem ok_305 : qgood 305 := ⟨by decide +kernel, rfl, by decide +kernel⟩
set_option maxRecDepth 20000 in
theorem ok_306 : qgood 306 := ⟨by decide +kernel, rfl, by decide +kernel⟩
set_option maxRecDepth 20000 in
theorem ok_307 : qgood 307 := ⟨by decide +kernel, rfl, by decide +kernel⟩
set_option maxRecDepth 20000 in
theorem ok_308 : qgood 308 := ⟨by decide +kernel, rfl, by decide +kernel⟩
set_option maxRecDepth 20000 in
theorem ok_309 : qgood 309 := ⟨by decide +kernel, rfl, by decide +kernel⟩
set_option maxRecDepth 20000 in
theorem ok_310 : qgood 310 := ⟨by decide +kernel, rfl, by decide +kernel⟩
set_option maxRecDepth 20000 in
theorem ok_311 : qgood 311 := ⟨by decide +kernel, rfl, by decide +kernel⟩
set_option maxRecDepth 20000 in
theorem ok_312 : qgood 312 := ⟨by decide +kernel, rfl, by decide +kernel⟩
set_option maxRecDepth 20000 in
theorem ok_313 : qgood 313 := ⟨by decide +kernel, rfl, by decide +kernel⟩
set_option maxRecDepth 20000 in
theorem ok_314 : qgood 314 := ⟨by decide +kernel, rfl, by decide +kernel⟩
set_option maxRecDepth 20000 in
theorem ok_315 : qgood 315 := ⟨by decide +kernel, rfl, by decide +kernel⟩
set_option maxRecDepth 20000 in
theorem ok_316 : qgood 316 := ⟨by decide +kernel, rfl, by decide +kernel⟩
set_option maxRecDepth 20000 in
theorem ok_317 : qgood 317 := ⟨by decide +kernel, rfl, by decide +kernel⟩
set_option maxRecDepth 20000 in
theorem ok_318 : qgood 318 := ⟨by decide +kernel, rfl, by decide +kernel⟩
set_option maxRecDepth 20000 in
theorem ok_319 : qgood 319 := ⟨by decide +kernel, rfl, by decide +kernel⟩
set_option maxRecDepth 20000 in
theorem ok_320 : qgood 320 := ⟨by decide +kernel, rfl, by decide +kernel⟩
set_option maxRecDepth 20000 in
theorem ok_321 : qgood 321 := ⟨by decide +kernel, rfl, by decide +kernel⟩
set_option maxRecDepth 20000 in
theorem ok_322 : qgood 322 := ⟨by decide +kernel, rfl, by decide +kernel⟩
set_option maxRecDepth 20000 in
theorem ok_323 : qgood 323 := ⟨by decide +kernel, rfl, by decide +kernel⟩
set_option maxRecDepth 20000 in
theorem ok_324 : qgood 324 := ⟨by decide +kernel, rfl, by decide +kernel⟩
set_option maxRecDepth 20000 in
theorem ok_325 : qgood 325 := ⟨by decide +kernel, rfl, by decide +kernel⟩
set_option maxRecDepth 20000 in
theorem ok_326 : qgood 326 := ⟨by decide +kernel, rfl, by decide +kernel⟩
set_option maxRecDepth 20000 in
theorem ok_327 : qgood 327 := ⟨by decide +kernel, rfl, by decide +kernel⟩
set_option maxRecDepth 20000 in
theorem ok_328 : qgood 328 := ⟨by decide +kernel, rfl, by decide +kernel⟩
set_option maxRecDepth 20000 in
theorem ok_329 : qgood 329 := ⟨by decide +kernel, rfl, by decide +kernel⟩
set_option maxRecDepth 20000 in
theorem ok_330 : qgood 330 := ⟨by decide +kernel, rfl, by decide +kernel⟩
set_option maxRecDepth 20000 in
theorem ok_331 : qgood 331 := ⟨by decide +kernel, rfl, by decide +kernel⟩
set_option maxRecDepth 20000 in
theorem ok_332 : qgood 332 := ⟨by decide +kernel, rfl, by decide +kernel⟩
set_option maxRecDepth 20000 in
theorem ok_333 : qgood 333 := ⟨by decide +kernel, rfl, by decide +kernel⟩
set_option maxRecDepth 20000 in
theorem ok_334 : qgood 334 := ⟨by decide +kernel, rfl, by decide +kernel⟩
set_option maxRecDepth 20000 in
theorem ok_335 : qgood 335 := ⟨by decide +kernel, rfl, by decide +kernel⟩
set_option maxRecDepth 20000 in
theorem ok_336 : qgood 336 := ⟨by decide +kernel, rfl, by decide +kernel⟩
set_option maxRecDepth 20000 in
theorem ok_337 : qgood 337 := ⟨by decide +kernel, rfl, by decide +kernel⟩
set_option maxRecDepth 20000 in
theorem ok_338 : qgood 338 := ⟨by decide +kernel, rfl, by decide +kernel⟩
set_option maxRecDepth 20000 in
theorem ok_339 : qgood 339 := ⟨by decide +kernel, rfl, by decide +kernel⟩
set_option maxRecDepth 20000 in
theorem ok_340 : qgood 340 := ⟨by decide +kernel, rfl, by decide +kernel⟩
set_option maxRecDepth 20000 in
theorem ok_341 : qgood 341 := ⟨by decide +kernel, rfl, by decide +kernel⟩
set_option maxRecDepth 20000 in
theorem ok_342 : qgood 342 := ⟨by decide +kernel, rfl, by decide +kernel⟩
set_option maxRecDepth 20000 in
theorem ok_343 : qgood 343 := ⟨by decide +kernel, rfl, by decide +kernel⟩
set_option maxRecDepth 20000 in
theorem ok_344 : qgood 344 := ⟨by decide +kernel, rfl, by decide +kernel⟩
set_option maxRecDepth 20000 in
theorem ok_345 : qgood 345 := ⟨by decide +kernel, rfl, by decide +kernel⟩
set_option maxRecDepth 20000 in
theorem ok_346 : qgood 346 := ⟨by decide +kernel, rfl, by decide +kernel⟩
set_option maxRecDepth 20000 in
theorem ok_347 : qgood 347 := ⟨by decide +kernel, rfl, by decide +kernel⟩
set_option maxRecDepth 20000 in
theorem ok_348 : qgood 348 := ⟨by decide +kernel, rfl, by decide +kernel⟩
set_option maxRecDepth 20000 in
theorem ok_349 : qgood 349 := ⟨by decide +kernel, rfl, by decide +kernel⟩
set_option maxRecDepth 20000 in
theorem ok_350 : qgood 350 := ⟨by decide +kernel, rfl, by decide +kernel⟩
set_option maxRecDepth 20000 in
theorem ok_351 : qgood 351 := ⟨by decide +kernel, rfl, by decide +kernel⟩
set_option maxRecDepth 20000 in
theorem ok_352 : qgood 352 := ⟨by decide +kernel, rfl, by decide +kernel⟩
set_option maxRecDepth 20000 in
theorem ok_353 : qgood 353 := ⟨by decide +kernel, rfl, by decide +kernel⟩
set_option maxRecDepth 20000 in
theorem ok_354 : qgood 354 := ⟨by decide +kernel, rfl, by decide +kernel⟩
set_option maxRecDepth 20000 in
theorem ok_355 : qgood 355 := ⟨by decide +kernel, rfl, by decide +kernel⟩
set_option maxRecDepth 20000 in
theorem ok_356 : qgood 356 := ⟨by decide +kernel, rfl, by decide +kernel⟩
set_option maxRecDepth 20000 in
theorem ok_357 : qgood 357 := ⟨by decide +kernel, rfl, by decide +kernel⟩
set_option maxRecDepth 20000 in
theorem ok_358 : qgood 358 := ⟨by decide +kernel, rfl, by decide +kernel⟩
set_option maxRecDepth 20000 in
theorem ok_359 : qgood 359 := ⟨by decide +kernel, rfl, by decide +kernel⟩
set_option maxRecDepth 20000 in
theorem ok_360 : qgood 360 := ⟨by decide +kernel, rfl, by decide +kernel⟩
set_option maxRecDepth 20000 in
theorem ok_361 : qgood 361 := ⟨by decide +kernel, rfl, by decide +kernel⟩
set_option maxRecDepth 20000 in
theorem ok_362 : qgood 362 := ⟨by decide +kernel, rfl, by decide +kernel⟩
set_option maxRecDepth 20000 in
theorem ok_363 : qgood 363 := ⟨by decide +kernel, rfl, by decide +kernel⟩
set_option maxRecDepth 20000 in
theorem ok_364 : qgood 364 := ⟨by decide +kernel, rfl, by decide +kernel⟩
set_option maxRecDepth 20000 in
theorem ok_365 : qgood 365 := ⟨by decide +kernel, rfl, by decide +kernel⟩
set_option maxRecDepth 20000 in
theorem ok_366 : qgood 366 := ⟨by decide +kernel, rfl, by decide +kernel⟩
set_option maxRecDepth 20000 in
theorem ok_367 : qgood 367 := ⟨by decide +kernel, rfl, by decide +kernel⟩
set_option maxRecDepth 20000 in
theorem ok_368 : qgood 368 := ⟨by decide +kernel, rfl, by decide +kernel⟩
set_option maxRecDepth 20000 in
theorem ok_369 : qgood 369 := ⟨by decide +kernel, rfl, by decide +kernel⟩
set_option maxRecDepth 20000 in
theorem ok_370 : qgood 370 := ⟨by decide +kernel, rfl, by decide +kernel⟩
