set_option maxRecDepth 100000 in
theorem ok_cd_L_law_0 (l : Launch) (D : va_G) (ad : Nat → Nat) (b0 : Nat) (Hb : Heap) : ∀ q ∈ cd_L_law_0, am_ok l D ad b0 Hb am_If yL_law cL_law 4 (some .boolean) q.1 q.2 :=
  am_fc (ok_new cl_9 df_9 dL_law_0 w1_21 w1_22 w1_1 rfl) <|
  am_fc (ok_dup dL_law_3 rfl) <|
  am_fc (ok_invI (i := ii_X10_init) rfl mm_X10_init dL_law_4 (Or.inl w1_23) rfl) <|
  am_fc (ok_astore_n dL_law_7 rfl rfl) <|
  am_fc (ok_new cl_10 df_10 dL_law_8 w4_107 w4_108 w1_11 rfl) <|
  am_fc (ok_dup dL_law_11 rfl) <|
  am_fc (ok_invI (i := ii_X11_init) rfl mm_X11_init dL_law_12 (Or.inl w4_109) rfl) <|
  am_fc (ok_astore_n dL_law_15 rfl rfl) <|
  am_fc (ok_iconst dL_law_16 (by decide) rfl) <|
  am_fc (ok_istore_n dL_law_17 rfl rfl) <|
  am_fc (ok_iload_n dL_law_18 rfl rfl) <|
  am_fc (ok_aload_n dL_law_19 rfl rfl) <|
  am_fc (ok_alen (by decide) (by decide) dL_law_20 rfl) <|
  am_fc (ok_bipush dL_law_21 (by decide) rfl) <|
  am_fc (ok_isub dL_law_23 rfl) <|
  am_fc (ok_cgt dL_law_24 (by decide) rfl) <|
  am_fc (ok_aload_n dL_law_27 rfl rfl) <|
  am_fc (ok_iload_n dL_law_28 rfl rfl) <|
  am_fc (ok_iald dL_law_29 rfl) <|
  am_fc (ok_bipush dL_law_30 (by decide) rfl) <|
  am_fc (ok_iand dL_law_32 rfl) <|
  am_fc (ok_table dL_law_33 (by decide) (by decide) (am_tab _ _ _ (by decide))) <|
  am_fc (ok_aload_n dL_law_196 rfl rfl) <|
  am_fc (ok_aload_n dL_law_197 rfl rfl) <|
  am_fc (ok_iload_n dL_law_198 rfl rfl) <|
  am_fc (ok_iconst dL_law_199 (by decide) rfl) <|
  am_fc (ok_iadd dL_law_200 rfl) <|
  am_fc (ok_iald dL_law_201 rfl) <|
  am_fc (ok_aload_n dL_law_202 rfl rfl) <|
  am_fc (ok_iload_n dL_law_203 rfl rfl) <|
  am_fc (ok_iconst dL_law_204 (by decide) rfl) <|
  am_fc (ok_iadd dL_law_205 rfl) <|
  am_fc (ok_iald dL_law_206 rfl) <|
  am_fc (ok_aload_n dL_law_207 rfl rfl) <|
  am_fc (ok_iload_n dL_law_208 rfl rfl) <|
  am_fc (ok_iconst dL_law_209 (by decide) rfl) <|
  am_fc (ok_iadd dL_law_210 rfl) <|
  am_fc (ok_iald dL_law_211 rfl) <|
  am_fc (ok_aload_n dL_law_212 rfl rfl) <|
  am_fc (ok_iload_n dL_law_213 rfl rfl) <|
  am_fc (ok_iconst dL_law_214 (by decide) rfl) <|
  am_fc (ok_iadd dL_law_215 rfl) <|
  am_fc (ok_iald dL_law_216 rfl) <|
  am_fc (ok_aload_n dL_law_217 rfl rfl) <|
  am_fc (ok_iload_n dL_law_218 rfl rfl) <|
  am_fc (ok_iconst dL_law_219 (by decide) rfl) <|
  am_fc (ok_iadd dL_law_220 rfl) <|
  am_fc (ok_iald dL_law_221 rfl) <|
  am_fc (ok_invV (i := ii_X10_person) rfl (Or.inr ⟨_, rfl, by decide, rfl⟩) mm_X10_person dL_law_222 w2_41 rfl) <|
  am_fc (ok_aload_n dL_law_225 rfl rfl) <|
  am_fn
set_option maxRecDepth 100000 in
theorem ok_cd_L_law_1 (l : Launch) (D : va_G) (ad : Nat → Nat) (b0 : Nat) (Hb : Heap) : ∀ q ∈ cd_L_law_1, am_ok l D ad b0 Hb am_If yL_law cL_law 4 (some .boolean) q.1 q.2 :=
  am_fc (ok_aload_n dL_law_226 rfl rfl) <|
  am_fc (ok_iload_n dL_law_227 rfl rfl) <|
  am_fc (ok_iconst dL_law_228 (by decide) rfl) <|
  am_fc (ok_iadd dL_law_229 rfl) <|
  am_fc (ok_iald dL_law_230 rfl) <|
  am_fc (ok_aload_n dL_law_231 rfl rfl) <|
  am_fc (ok_iload_n dL_law_232 rfl rfl) <|
  am_fc (ok_iconst dL_law_233 (by decide) rfl) <|
  am_fc (ok_iadd dL_law_234 rfl) <|
  am_fc (ok_iald dL_law_235 rfl) <|
  am_fc (ok_aload_n dL_law_236 rfl rfl) <|
  am_fc (ok_iload_n dL_law_237 rfl rfl) <|
  am_fc (ok_iconst dL_law_238 (by decide) rfl) <|
  am_fc (ok_iadd dL_law_239 rfl) <|
  am_fc (ok_iald dL_law_240 rfl) <|
  am_fc (ok_aload_n dL_law_241 rfl rfl) <|
  am_fc (ok_iload_n dL_law_242 rfl rfl) <|
  am_fc (ok_iconst dL_law_243 (by decide) rfl) <|
  am_fc (ok_iadd dL_law_244 rfl) <|
  am_fc (ok_iald dL_law_245 rfl) <|
  am_fc (ok_aload_n dL_law_246 rfl rfl) <|
  am_fc (ok_iload_n dL_law_247 rfl rfl) <|
  am_fc (ok_iconst dL_law_248 (by decide) rfl) <|
  am_fc (ok_iadd dL_law_249 rfl) <|
  am_fc (ok_iald dL_law_250 rfl) <|
  am_fc (ok_invV (i := ii_X11_person) rfl (Or.inr ⟨_, rfl, by decide, rfl⟩) mm_X11_person dL_law_251 w5_24 rfl) <|
  am_fc (ok_ceq dL_law_254 (by decide) rfl) <|
  am_fc (ok_iconst dL_law_257 (by decide) rfl) <|
  am_fc (ok_zret rfl dL_law_258) <|
  am_fc (ok_aload_n dL_law_259 rfl rfl) <|
  am_fc (ok_aload_n dL_law_260 rfl rfl) <|
  am_fc (ok_iload_n dL_law_261 rfl rfl) <|
  am_fc (ok_iconst dL_law_262 (by decide) rfl) <|
  am_fc (ok_iadd dL_law_263 rfl) <|
  am_fc (ok_iald dL_law_264 rfl) <|
  am_fc (ok_aload_n dL_law_265 rfl rfl) <|
  am_fc (ok_iload_n dL_law_266 rfl rfl) <|
  am_fc (ok_iconst dL_law_267 (by decide) rfl) <|
  am_fc (ok_iadd dL_law_268 rfl) <|
  am_fc (ok_iald dL_law_269 rfl) <|
  am_fc (ok_aload_n dL_law_270 rfl rfl) <|
  am_fc (ok_iload_n dL_law_271 rfl rfl) <|
  am_fc (ok_iconst dL_law_272 (by decide) rfl) <|
  am_fc (ok_iadd dL_law_273 rfl) <|
  am_fc (ok_iald dL_law_274 rfl) <|
  am_fc (ok_invV (i := ii_X10_set) rfl (Or.inr ⟨_, rfl, by decide, rfl⟩) mm_X10_set dL_law_275 w2_58 rfl) <|
  am_fc (ok_aload_n dL_law_278 rfl rfl) <|
  am_fc (ok_aload_n dL_law_279 rfl rfl) <|
  am_fc (ok_iload_n dL_law_280 rfl rfl) <|
  am_fc (ok_iconst dL_law_281 (by decide) rfl) <|
  am_fn
set_option maxRecDepth 100000 in
theorem ok_cd_L_law_2 (l : Launch) (D : va_G) (ad : Nat → Nat) (b0 : Nat) (Hb : Heap) : ∀ q ∈ cd_L_law_2, am_ok l D ad b0 Hb am_If yL_law cL_law 4 (some .boolean) q.1 q.2 :=
  am_fc (ok_iadd dL_law_282 rfl) <|
  am_fc (ok_iald dL_law_283 rfl) <|
  am_fc (ok_aload_n dL_law_284 rfl rfl) <|
  am_fc (ok_iload_n dL_law_285 rfl rfl) <|
  am_fc (ok_iconst dL_law_286 (by decide) rfl) <|
  am_fc (ok_iadd dL_law_287 rfl) <|
  am_fc (ok_iald dL_law_288 rfl) <|
  am_fc (ok_aload_n dL_law_289 rfl rfl) <|
  am_fc (ok_iload_n dL_law_290 rfl rfl) <|
  am_fc (ok_iconst dL_law_291 (by decide) rfl) <|
  am_fc (ok_iadd dL_law_292 rfl) <|
  am_fc (ok_iald dL_law_293 rfl) <|
  am_fc (ok_invV (i := ii_X11_set) rfl (Or.inr ⟨_, rfl, by decide, rfl⟩) mm_X11_set dL_law_294 w5_37 rfl) <|
  am_fc (ok_ceq dL_law_297 (by decide) rfl) <|
  am_fc (ok_iconst dL_law_300 (by decide) rfl) <|
  am_fc (ok_zret rfl dL_law_301) <|
  am_fc (ok_aload_n dL_law_302 rfl rfl) <|
  am_fc (ok_aload_n dL_law_303 rfl rfl) <|
  am_fc (ok_iload_n dL_law_304 rfl rfl) <|
  am_fc (ok_iconst dL_law_305 (by decide) rfl) <|
  am_fc (ok_iadd dL_law_306 rfl) <|
  am_fc (ok_iald dL_law_307 rfl) <|
  am_fc (ok_aload_n dL_law_308 rfl rfl) <|
  am_fc (ok_iload_n dL_law_309 rfl rfl) <|
  am_fc (ok_iconst dL_law_310 (by decide) rfl) <|
  am_fc (ok_iadd dL_law_311 rfl) <|
  am_fc (ok_iald dL_law_312 rfl) <|
  am_fc (ok_invV (i := ii_X10_where) rfl (Or.inr ⟨_, rfl, by decide, rfl⟩) mm_X10_where dL_law_313 w2_66 rfl) <|
  am_fc (ok_aload_n dL_law_316 rfl rfl) <|
  am_fc (ok_aload_n dL_law_317 rfl rfl) <|
  am_fc (ok_iload_n dL_law_318 rfl rfl) <|
  am_fc (ok_iconst dL_law_319 (by decide) rfl) <|
  am_fc (ok_iadd dL_law_320 rfl) <|
  am_fc (ok_iald dL_law_321 rfl) <|
  am_fc (ok_aload_n dL_law_322 rfl rfl) <|
  am_fc (ok_iload_n dL_law_323 rfl rfl) <|
  am_fc (ok_iconst dL_law_324 (by decide) rfl) <|
  am_fc (ok_iadd dL_law_325 rfl) <|
  am_fc (ok_iald dL_law_326 rfl) <|
  am_fc (ok_invV (i := ii_X11_where) rfl (Or.inr ⟨_, rfl, by decide, rfl⟩) mm_X11_where dL_law_327 w5_49 rfl) <|
  am_fc (ok_ceq dL_law_330 (by decide) rfl) <|
  am_fc (ok_iconst dL_law_333 (by decide) rfl) <|
  am_fc (ok_zret rfl dL_law_334) <|
  am_fc (ok_aload_n dL_law_335 rfl rfl) <|
  am_fc (ok_aload_n dL_law_336 rfl rfl) <|
  am_fc (ok_iload_n dL_law_337 rfl rfl) <|
  am_fc (ok_iconst dL_law_338 (by decide) rfl) <|
  am_fc (ok_iadd dL_law_339 rfl) <|
  am_fc (ok_iald dL_law_340 rfl) <|
  am_fc (ok_aload_n dL_law_341 rfl rfl) <|
  am_fn
set_option maxRecDepth 100000 in
theorem ok_cd_L_law_3 (l : Launch) (D : va_G) (ad : Nat → Nat) (b0 : Nat) (Hb : Heap) : ∀ q ∈ cd_L_law_3, am_ok l D ad b0 Hb am_If yL_law cL_law 4 (some .boolean) q.1 q.2 :=
  am_fc (ok_iload_n dL_law_342 rfl rfl) <|
  am_fc (ok_iconst dL_law_343 (by decide) rfl) <|
  am_fc (ok_iadd dL_law_344 rfl) <|
  am_fc (ok_iald dL_law_345 rfl) <|
  am_fc (ok_aload_n dL_law_346 rfl rfl) <|
  am_fc (ok_iload_n dL_law_347 rfl rfl) <|
  am_fc (ok_iconst dL_law_348 (by decide) rfl) <|
  am_fc (ok_iadd dL_law_349 rfl) <|
  am_fc (ok_iald dL_law_350 rfl) <|
  am_fc (ok_aload_n dL_law_351 rfl rfl) <|
  am_fc (ok_iload_n dL_law_352 rfl rfl) <|
  am_fc (ok_iconst dL_law_353 (by decide) rfl) <|
  am_fc (ok_iadd dL_law_354 rfl) <|
  am_fc (ok_iald dL_law_355 rfl) <|
  am_fc (ok_invV (i := ii_X10_plain) rfl (Or.inr ⟨_, rfl, by decide, rfl⟩) mm_X10_plain dL_law_356 w2_74 rfl) <|
  am_fc (ok_aload_n dL_law_359 rfl rfl) <|
  am_fc (ok_aload_n dL_law_360 rfl rfl) <|
  am_fc (ok_iload_n dL_law_361 rfl rfl) <|
  am_fc (ok_iconst dL_law_362 (by decide) rfl) <|
  am_fc (ok_iadd dL_law_363 rfl) <|
  am_fc (ok_iald dL_law_364 rfl) <|
  am_fc (ok_aload_n dL_law_365 rfl rfl) <|
  am_fc (ok_iload_n dL_law_366 rfl rfl) <|
  am_fc (ok_iconst dL_law_367 (by decide) rfl) <|
  am_fc (ok_iadd dL_law_368 rfl) <|
  am_fc (ok_iald dL_law_369 rfl) <|
  am_fc (ok_aload_n dL_law_370 rfl rfl) <|
  am_fc (ok_iload_n dL_law_371 rfl rfl) <|
  am_fc (ok_iconst dL_law_372 (by decide) rfl) <|
  am_fc (ok_iadd dL_law_373 rfl) <|
  am_fc (ok_iald dL_law_374 rfl) <|
  am_fc (ok_aload_n dL_law_375 rfl rfl) <|
  am_fc (ok_iload_n dL_law_376 rfl rfl) <|
  am_fc (ok_iconst dL_law_377 (by decide) rfl) <|
  am_fc (ok_iadd dL_law_378 rfl) <|
  am_fc (ok_iald dL_law_379 rfl) <|
  am_fc (ok_invV (i := ii_X11_plain) rfl (Or.inr ⟨_, rfl, by decide, rfl⟩) mm_X11_plain dL_law_380 w5_62 rfl) <|
  am_fc (ok_ceq dL_law_383 (by decide) rfl) <|
  am_fc (ok_iconst dL_law_386 (by decide) rfl) <|
  am_fc (ok_zret rfl dL_law_387) <|
  am_fc (ok_aload_n dL_law_388 rfl rfl) <|
  am_fc (ok_aload_n dL_law_389 rfl rfl) <|
  am_fc (ok_iload_n dL_law_390 rfl rfl) <|
  am_fc (ok_iconst dL_law_391 (by decide) rfl) <|
  am_fc (ok_iadd dL_law_392 rfl) <|
  am_fc (ok_iald dL_law_393 rfl) <|
  am_fc (ok_aload_n dL_law_394 rfl rfl) <|
  am_fc (ok_iload_n dL_law_395 rfl rfl) <|
  am_fc (ok_iconst dL_law_396 (by decide) rfl) <|
  am_fc (ok_iadd dL_law_397 rfl) <|
  am_fn
set_option maxRecDepth 100000 in
theorem ok_cd_L_law_4 (l : Launch) (D : va_G) (ad : Nat → Nat) (b0 : Nat) (Hb : Heap) : ∀ q ∈ cd_L_law_4, am_ok l D ad b0 Hb am_If yL_law cL_law 4 (some .boolean) q.1 q.2 :=
  am_fc (ok_iald dL_law_398 rfl) <|
  am_fc (ok_aload_n dL_law_399 rfl rfl) <|
  am_fc (ok_iload_n dL_law_400 rfl rfl) <|
  am_fc (ok_iconst dL_law_401 (by decide) rfl) <|
  am_fc (ok_iadd dL_law_402 rfl) <|
  am_fc (ok_iald dL_law_403 rfl) <|
  am_fc (ok_invV (i := ii_X10_changed) rfl (Or.inr ⟨_, rfl, by decide, rfl⟩) mm_X10_changed dL_law_404 w2_88 rfl) <|
  am_fc (ok_aload_n dL_law_407 rfl rfl) <|
  am_fc (ok_aload_n dL_law_408 rfl rfl) <|
  am_fc (ok_iload_n dL_law_409 rfl rfl) <|
  am_fc (ok_iconst dL_law_410 (by decide) rfl) <|
  am_fc (ok_iadd dL_law_411 rfl) <|
  am_fc (ok_iald dL_law_412 rfl) <|
  am_fc (ok_aload_n dL_law_413 rfl rfl) <|
  am_fc (ok_iload_n dL_law_414 rfl rfl) <|
  am_fc (ok_iconst dL_law_415 (by decide) rfl) <|
  am_fc (ok_iadd dL_law_416 rfl) <|
  am_fc (ok_iald dL_law_417 rfl) <|
  am_fc (ok_aload_n dL_law_418 rfl rfl) <|
  am_fc (ok_iload_n dL_law_419 rfl rfl) <|
  am_fc (ok_iconst dL_law_420 (by decide) rfl) <|
  am_fc (ok_iadd dL_law_421 rfl) <|
  am_fc (ok_iald dL_law_422 rfl) <|
  am_fc (ok_invV (i := ii_X11_changed) rfl (Or.inr ⟨_, rfl, by decide, rfl⟩) mm_X11_changed dL_law_423 w5_76 rfl) <|
  am_fc (ok_ceq dL_law_426 (by decide) rfl) <|
  am_fc (ok_iconst dL_law_429 (by decide) rfl) <|
  am_fc (ok_zret rfl dL_law_430) <|
  am_fc (ok_aload_n dL_law_431 rfl rfl) <|
  am_fc (ok_aload_n dL_law_432 rfl rfl) <|
  am_fc (ok_iload_n dL_law_433 rfl rfl) <|
  am_fc (ok_iconst dL_law_434 (by decide) rfl) <|
  am_fc (ok_iadd dL_law_435 rfl) <|
  am_fc (ok_iald dL_law_436 rfl) <|
  am_fc (ok_aload_n dL_law_437 rfl rfl) <|
  am_fc (ok_iload_n dL_law_438 rfl rfl) <|
  am_fc (ok_iconst dL_law_439 (by decide) rfl) <|
  am_fc (ok_iadd dL_law_440 rfl) <|
  am_fc (ok_iald dL_law_441 rfl) <|
  am_fc (ok_invV (i := ii_X10_planted) rfl (Or.inr ⟨_, rfl, by decide, rfl⟩) mm_X10_planted dL_law_442 w2_105 rfl) <|
  am_fc (ok_aload_n dL_law_445 rfl rfl) <|
  am_fc (ok_aload_n dL_law_446 rfl rfl) <|
  am_fc (ok_iload_n dL_law_447 rfl rfl) <|
  am_fc (ok_iconst dL_law_448 (by decide) rfl) <|
  am_fc (ok_iadd dL_law_449 rfl) <|
  am_fc (ok_iald dL_law_450 rfl) <|
  am_fc (ok_aload_n dL_law_451 rfl rfl) <|
  am_fc (ok_iload_n dL_law_452 rfl rfl) <|
  am_fc (ok_iconst dL_law_453 (by decide) rfl) <|
  am_fc (ok_iadd dL_law_454 rfl) <|
  am_fc (ok_iald dL_law_455 rfl) <|
  am_fn
set_option maxRecDepth 100000 in
theorem ok_cd_L_law_5 (l : Launch) (D : va_G) (ad : Nat → Nat) (b0 : Nat) (Hb : Heap) : ∀ q ∈ cd_L_law_5, am_ok l D ad b0 Hb am_If yL_law cL_law 4 (some .boolean) q.1 q.2 :=
  am_fc (ok_invV (i := ii_X11_planted) rfl (Or.inr ⟨_, rfl, by decide, rfl⟩) mm_X11_planted dL_law_456 w5_90 rfl) <|
  am_fc (ok_ceq dL_law_459 (by decide) rfl) <|
  am_fc (ok_iconst dL_law_462 (by decide) rfl) <|
  am_fc (ok_zret rfl dL_law_463) <|
  am_fc (ok_aload_n dL_law_464 rfl rfl) <|
  am_fc (ok_aload_n dL_law_465 rfl rfl) <|
  am_fc (ok_iload_n dL_law_466 rfl rfl) <|
  am_fc (ok_iconst dL_law_467 (by decide) rfl) <|
  am_fc (ok_iadd dL_law_468 rfl) <|
  am_fc (ok_iald dL_law_469 rfl) <|
  am_fc (ok_aload_n dL_law_470 rfl rfl) <|
  am_fc (ok_iload_n dL_law_471 rfl rfl) <|
  am_fc (ok_iconst dL_law_472 (by decide) rfl) <|
  am_fc (ok_iadd dL_law_473 rfl) <|
  am_fc (ok_iald dL_law_474 rfl) <|
  am_fc (ok_aload_n dL_law_475 rfl rfl) <|
  am_fc (ok_iload_n dL_law_476 rfl rfl) <|
  am_fc (ok_iconst dL_law_477 (by decide) rfl) <|
  am_fc (ok_iadd dL_law_478 rfl) <|
  am_fc (ok_iald dL_law_479 rfl) <|
  am_fc (ok_aload_n dL_law_480 rfl rfl) <|
  am_fc (ok_iload_n dL_law_481 rfl rfl) <|
  am_fc (ok_iconst dL_law_482 (by decide) rfl) <|
  am_fc (ok_iadd dL_law_483 rfl) <|
  am_fc (ok_iald dL_law_484 rfl) <|
  am_fc (ok_aload_n dL_law_485 rfl rfl) <|
  am_fc (ok_iload_n dL_law_486 rfl rfl) <|
  am_fc (ok_iconst dL_law_487 (by decide) rfl) <|
  am_fc (ok_iadd dL_law_488 rfl) <|
  am_fc (ok_iald dL_law_489 rfl) <|
  am_fc (ok_ifeq dL_law_490 (by decide) rfl) <|
  am_fc (ok_iconst dL_law_493 (by decide) rfl) <|
  am_fc (ok_goto dL_law_494 (by decide)) <|
  am_fc (ok_iconst dL_law_497 (by decide) rfl) <|
  am_fc (ok_invV (i := ii_X10_real) rfl (Or.inr ⟨_, rfl, by decide, rfl⟩) mm_X10_real dL_law_498 w2_109 rfl) <|
  am_fc (ok_aload_n dL_law_501 rfl rfl) <|
  am_fc (ok_aload_n dL_law_502 rfl rfl) <|
  am_fc (ok_iload_n dL_law_503 rfl rfl) <|
  am_fc (ok_iconst dL_law_504 (by decide) rfl) <|
  am_fc (ok_iadd dL_law_505 rfl) <|
  am_fc (ok_iald dL_law_506 rfl) <|
  am_fc (ok_aload_n dL_law_507 rfl rfl) <|
  am_fc (ok_iload_n dL_law_508 rfl rfl) <|
  am_fc (ok_iconst dL_law_509 (by decide) rfl) <|
  am_fc (ok_iadd dL_law_510 rfl) <|
  am_fc (ok_iald dL_law_511 rfl) <|
  am_fc (ok_aload_n dL_law_512 rfl rfl) <|
  am_fc (ok_iload_n dL_law_513 rfl rfl) <|
  am_fc (ok_iconst dL_law_514 (by decide) rfl) <|
  am_fc (ok_iadd dL_law_515 rfl) <|
  am_fn
set_option maxRecDepth 100000 in
theorem ok_cd_L_law_6 (l : Launch) (D : va_G) (ad : Nat → Nat) (b0 : Nat) (Hb : Heap) : ∀ q ∈ cd_L_law_6, am_ok l D ad b0 Hb am_If yL_law cL_law 4 (some .boolean) q.1 q.2 :=
  am_fc (ok_iald dL_law_516 rfl) <|
  am_fc (ok_aload_n dL_law_517 rfl rfl) <|
  am_fc (ok_iload_n dL_law_518 rfl rfl) <|
  am_fc (ok_iconst dL_law_519 (by decide) rfl) <|
  am_fc (ok_iadd dL_law_520 rfl) <|
  am_fc (ok_iald dL_law_521 rfl) <|
  am_fc (ok_aload_n dL_law_522 rfl rfl) <|
  am_fc (ok_iload_n dL_law_523 rfl rfl) <|
  am_fc (ok_iconst dL_law_524 (by decide) rfl) <|
  am_fc (ok_iadd dL_law_525 rfl) <|
  am_fc (ok_iald dL_law_526 rfl) <|
  am_fc (ok_ifeq dL_law_527 (by decide) rfl) <|
  am_fc (ok_iconst dL_law_530 (by decide) rfl) <|
  am_fc (ok_goto dL_law_531 (by decide)) <|
  am_fc (ok_iconst dL_law_534 (by decide) rfl) <|
  am_fc (ok_invV (i := ii_X11_real) rfl (Or.inr ⟨_, rfl, by decide, rfl⟩) mm_X11_real dL_law_535 w5_94 rfl) <|
  am_fc (ok_ceq dL_law_538 (by decide) rfl) <|
  am_fc (ok_iconst dL_law_541 (by decide) rfl) <|
  am_fc (ok_zret rfl dL_law_542) <|
  am_fc (ok_aload_n dL_law_543 rfl rfl) <|
  am_fc (ok_aload_n dL_law_544 rfl rfl) <|
  am_fc (ok_iload_n dL_law_545 rfl rfl) <|
  am_fc (ok_iconst dL_law_546 (by decide) rfl) <|
  am_fc (ok_iadd dL_law_547 rfl) <|
  am_fc (ok_iald dL_law_548 rfl) <|
  am_fc (ok_aload_n dL_law_549 rfl rfl) <|
  am_fc (ok_iload_n dL_law_550 rfl rfl) <|
  am_fc (ok_iconst dL_law_551 (by decide) rfl) <|
  am_fc (ok_iadd dL_law_552 rfl) <|
  am_fc (ok_iald dL_law_553 rfl) <|
  am_fc (ok_invV (i := ii_X10_told) rfl (Or.inr ⟨_, rfl, by decide, rfl⟩) mm_X10_told dL_law_554 w2_113 rfl) <|
  am_fc (ok_aload_n dL_law_557 rfl rfl) <|
  am_fc (ok_aload_n dL_law_558 rfl rfl) <|
  am_fc (ok_iload_n dL_law_559 rfl rfl) <|
  am_fc (ok_iconst dL_law_560 (by decide) rfl) <|
  am_fc (ok_iadd dL_law_561 rfl) <|
  am_fc (ok_iald dL_law_562 rfl) <|
  am_fc (ok_aload_n dL_law_563 rfl rfl) <|
  am_fc (ok_iload_n dL_law_564 rfl rfl) <|
  am_fc (ok_iconst dL_law_565 (by decide) rfl) <|
  am_fc (ok_iadd dL_law_566 rfl) <|
  am_fc (ok_iald dL_law_567 rfl) <|
  am_fc (ok_invV (i := ii_X11_told) rfl (Or.inr ⟨_, rfl, by decide, rfl⟩) mm_X11_told dL_law_568 w5_98 rfl) <|
  am_fc (ok_ceq dL_law_571 (by decide) rfl) <|
  am_fc (ok_iconst dL_law_574 (by decide) rfl) <|
  am_fc (ok_zret rfl dL_law_575) <|
  am_fc (ok_aload_n dL_law_576 rfl rfl) <|
  am_fc (ok_aload_n dL_law_577 rfl rfl) <|
  am_fc (ok_iload_n dL_law_578 rfl rfl) <|
  am_fc (ok_iconst dL_law_579 (by decide) rfl) <|
  am_fn
set_option maxRecDepth 100000 in
theorem ok_cd_L_law_7 (l : Launch) (D : va_G) (ad : Nat → Nat) (b0 : Nat) (Hb : Heap) : ∀ q ∈ cd_L_law_7, am_ok l D ad b0 Hb am_If yL_law cL_law 4 (some .boolean) q.1 q.2 :=
  am_fc (ok_iadd dL_law_580 rfl) <|
  am_fc (ok_iald dL_law_581 rfl) <|
  am_fc (ok_aload_n dL_law_582 rfl rfl) <|
  am_fc (ok_iload_n dL_law_583 rfl rfl) <|
  am_fc (ok_iconst dL_law_584 (by decide) rfl) <|
  am_fc (ok_iadd dL_law_585 rfl) <|
  am_fc (ok_iald dL_law_586 rfl) <|
  am_fc (ok_invV (i := ii_X10_weight) rfl (Or.inr ⟨_, rfl, by decide, rfl⟩) mm_X10_weight dL_law_587 w2_117 rfl) <|
  am_fc (ok_aload_n dL_law_590 rfl rfl) <|
  am_fc (ok_aload_n dL_law_591 rfl rfl) <|
  am_fc (ok_iload_n dL_law_592 rfl rfl) <|
  am_fc (ok_iconst dL_law_593 (by decide) rfl) <|
  am_fc (ok_iadd dL_law_594 rfl) <|
  am_fc (ok_iald dL_law_595 rfl) <|
  am_fc (ok_aload_n dL_law_596 rfl rfl) <|
  am_fc (ok_iload_n dL_law_597 rfl rfl) <|
  am_fc (ok_iconst dL_law_598 (by decide) rfl) <|
  am_fc (ok_iadd dL_law_599 rfl) <|
  am_fc (ok_iald dL_law_600 rfl) <|
  am_fc (ok_invV (i := ii_X11_weight) rfl (Or.inr ⟨_, rfl, by decide, rfl⟩) mm_X11_weight dL_law_601 w5_102 rfl) <|
  am_fc (ok_ceq dL_law_604 (by decide) rfl) <|
  am_fc (ok_iconst dL_law_607 (by decide) rfl) <|
  am_fc (ok_zret rfl dL_law_608) <|
  am_fc (ok_aload_n dL_law_609 rfl rfl) <|
  am_fc (ok_aload_n dL_law_610 rfl rfl) <|
  am_fc (ok_iload_n dL_law_611 rfl rfl) <|
  am_fc (ok_iconst dL_law_612 (by decide) rfl) <|
  am_fc (ok_iadd dL_law_613 rfl) <|
  am_fc (ok_iald dL_law_614 rfl) <|
  am_fc (ok_aload_n dL_law_615 rfl rfl) <|
  am_fc (ok_iload_n dL_law_616 rfl rfl) <|
  am_fc (ok_iconst dL_law_617 (by decide) rfl) <|
  am_fc (ok_iadd dL_law_618 rfl) <|
  am_fc (ok_iald dL_law_619 rfl) <|
  am_fc (ok_invV (i := ii_X10_begin) rfl (Or.inr ⟨_, rfl, by decide, rfl⟩) mm_X10_begin dL_law_620 w2_121 rfl) <|
  am_fc (ok_aload_n dL_law_623 rfl rfl) <|
  am_fc (ok_aload_n dL_law_624 rfl rfl) <|
  am_fc (ok_iload_n dL_law_625 rfl rfl) <|
  am_fc (ok_iconst dL_law_626 (by decide) rfl) <|
  am_fc (ok_iadd dL_law_627 rfl) <|
  am_fc (ok_iald dL_law_628 rfl) <|
  am_fc (ok_aload_n dL_law_629 rfl rfl) <|
  am_fc (ok_iload_n dL_law_630 rfl rfl) <|
  am_fc (ok_iconst dL_law_631 (by decide) rfl) <|
  am_fc (ok_iadd dL_law_632 rfl) <|
  am_fc (ok_iald dL_law_633 rfl) <|
  am_fc (ok_invV (i := ii_X11_begin) rfl (Or.inr ⟨_, rfl, by decide, rfl⟩) mm_X11_begin dL_law_634 w5_106 rfl) <|
  am_fc (ok_ceq dL_law_637 (by decide) rfl) <|
  am_fc (ok_iconst dL_law_640 (by decide) rfl) <|
  am_fc (ok_zret rfl dL_law_641) <|
  am_fn
set_option maxRecDepth 100000 in
theorem ok_cd_L_law_8 (l : Launch) (D : va_G) (ad : Nat → Nat) (b0 : Nat) (Hb : Heap) : ∀ q ∈ cd_L_law_8, am_ok l D ad b0 Hb am_If yL_law cL_law 4 (some .boolean) q.1 q.2 :=
  am_fc (ok_aload_n dL_law_642 rfl rfl) <|
  am_fc (ok_aload_n dL_law_643 rfl rfl) <|
  am_fc (ok_iload_n dL_law_644 rfl rfl) <|
  am_fc (ok_iconst dL_law_645 (by decide) rfl) <|
  am_fc (ok_iadd dL_law_646 rfl) <|
  am_fc (ok_iald dL_law_647 rfl) <|
  am_fc (ok_aload_n dL_law_648 rfl rfl) <|
  am_fc (ok_iload_n dL_law_649 rfl rfl) <|
  am_fc (ok_iconst dL_law_650 (by decide) rfl) <|
  am_fc (ok_iadd dL_law_651 rfl) <|
  am_fc (ok_iald dL_law_652 rfl) <|
  am_fc (ok_aload_n dL_law_653 rfl rfl) <|
  am_fc (ok_iload_n dL_law_654 rfl rfl) <|
  am_fc (ok_iconst dL_law_655 (by decide) rfl) <|
  am_fc (ok_iadd dL_law_656 rfl) <|
  am_fc (ok_iald dL_law_657 rfl) <|
  am_fc (ok_invV (i := ii_X10_knows) rfl (Or.inr ⟨_, rfl, by decide, rfl⟩) mm_X10_knows dL_law_658 w2_137 rfl) <|
  am_fc (ok_aload_n dL_law_661 rfl rfl) <|
  am_fc (ok_aload_n dL_law_662 rfl rfl) <|
  am_fc (ok_iload_n dL_law_663 rfl rfl) <|
  am_fc (ok_iconst dL_law_664 (by decide) rfl) <|
  am_fc (ok_iadd dL_law_665 rfl) <|
  am_fc (ok_iald dL_law_666 rfl) <|
  am_fc (ok_aload_n dL_law_667 rfl rfl) <|
  am_fc (ok_iload_n dL_law_668 rfl rfl) <|
  am_fc (ok_iconst dL_law_669 (by decide) rfl) <|
  am_fc (ok_iadd dL_law_670 rfl) <|
  am_fc (ok_iald dL_law_671 rfl) <|
  am_fc (ok_aload_n dL_law_672 rfl rfl) <|
  am_fc (ok_iload_n dL_law_673 rfl rfl) <|
  am_fc (ok_iconst dL_law_674 (by decide) rfl) <|
  am_fc (ok_iadd dL_law_675 rfl) <|
  am_fc (ok_iald dL_law_676 rfl) <|
  am_fc (ok_invV (i := ii_X11_knows) rfl (Or.inr ⟨_, rfl, by decide, rfl⟩) mm_X11_knows dL_law_677 w5_114 rfl) <|
  am_fc (ok_ceq dL_law_680 (by decide) rfl) <|
  am_fc (ok_iconst dL_law_683 (by decide) rfl) <|
  am_fc (ok_zret rfl dL_law_684) <|
  am_fc (ok_aload_n dL_law_685 rfl rfl) <|
  am_fc (ok_aload_n dL_law_686 rfl rfl) <|
  am_fc (ok_iload_n dL_law_687 rfl rfl) <|
  am_fc (ok_iconst dL_law_688 (by decide) rfl) <|
  am_fc (ok_iadd dL_law_689 rfl) <|
  am_fc (ok_iald dL_law_690 rfl) <|
  am_fc (ok_invV (i := ii_X10_count) rfl (Or.inr ⟨_, rfl, by decide, rfl⟩) mm_X10_count dL_law_691 w2_141 rfl) <|
  am_fc (ok_aload_n dL_law_694 rfl rfl) <|
  am_fc (ok_aload_n dL_law_695 rfl rfl) <|
  am_fc (ok_iload_n dL_law_696 rfl rfl) <|
  am_fc (ok_iconst dL_law_697 (by decide) rfl) <|
  am_fc (ok_iadd dL_law_698 rfl) <|
  am_fc (ok_iald dL_law_699 rfl) <|
  am_fn
set_option maxRecDepth 100000 in
theorem ok_cd_L_law_9 (l : Launch) (D : va_G) (ad : Nat → Nat) (b0 : Nat) (Hb : Heap) : ∀ q ∈ cd_L_law_9, am_ok l D ad b0 Hb am_If yL_law cL_law 4 (some .boolean) q.1 q.2 :=
  am_fc (ok_invV (i := ii_X11_count) rfl (Or.inr ⟨_, rfl, by decide, rfl⟩) mm_X11_count dL_law_700 w5_118 rfl) <|
  am_fc (ok_ceq dL_law_703 (by decide) rfl) <|
  am_fc (ok_iconst dL_law_706 (by decide) rfl) <|
  am_fc (ok_zret rfl dL_law_707) <|
  am_fc (ok_aload_n dL_law_708 rfl rfl) <|
  am_fc (ok_aload_n dL_law_709 rfl rfl) <|
  am_fc (ok_iload_n dL_law_710 rfl rfl) <|
  am_fc (ok_iconst dL_law_711 (by decide) rfl) <|
  am_fc (ok_iadd dL_law_712 rfl) <|
  am_fc (ok_iald dL_law_713 rfl) <|
  am_fc (ok_invV (i := ii_X10_hours) rfl (Or.inr ⟨_, rfl, by decide, rfl⟩) mm_X10_hours dL_law_714 w2_145 rfl) <|
  am_fc (ok_aload_n dL_law_717 rfl rfl) <|
  am_fc (ok_aload_n dL_law_718 rfl rfl) <|
  am_fc (ok_iload_n dL_law_719 rfl rfl) <|
  am_fc (ok_iconst dL_law_720 (by decide) rfl) <|
  am_fc (ok_iadd dL_law_721 rfl) <|
  am_fc (ok_iald dL_law_722 rfl) <|
  am_fc (ok_invV (i := ii_X11_hours) rfl (Or.inr ⟨_, rfl, by decide, rfl⟩) mm_X11_hours dL_law_723 w5_122 rfl) <|
  am_fc (ok_ceq dL_law_726 (by decide) rfl) <|
  am_fc (ok_iconst dL_law_729 (by decide) rfl) <|
  am_fc (ok_zret rfl dL_law_730) <|
  am_fc (ok_aload_n dL_law_731 rfl rfl) <|
  am_fc (ok_aload_n dL_law_732 rfl rfl) <|
  am_fc (ok_iload_n dL_law_733 rfl rfl) <|
  am_fc (ok_iconst dL_law_734 (by decide) rfl) <|
  am_fc (ok_iadd dL_law_735 rfl) <|
  am_fc (ok_iald dL_law_736 rfl) <|
  am_fc (ok_aload_n dL_law_737 rfl rfl) <|
  am_fc (ok_iload_n dL_law_738 rfl rfl) <|
  am_fc (ok_iconst dL_law_739 (by decide) rfl) <|
  am_fc (ok_iadd dL_law_740 rfl) <|
  am_fc (ok_iald dL_law_741 rfl) <|
  am_fc (ok_invV (i := ii_X10_reach) rfl (Or.inr ⟨_, rfl, by decide, rfl⟩) mm_X10_reach dL_law_742 w2_193 rfl) <|
  am_fc (ok_aload_n dL_law_745 rfl rfl) <|
  am_fc (ok_aload_n dL_law_746 rfl rfl) <|
  am_fc (ok_iload_n dL_law_747 rfl rfl) <|
  am_fc (ok_iconst dL_law_748 (by decide) rfl) <|
  am_fc (ok_iadd dL_law_749 rfl) <|
  am_fc (ok_iald dL_law_750 rfl) <|
  am_fc (ok_aload_n dL_law_751 rfl rfl) <|
  am_fc (ok_iload_n dL_law_752 rfl rfl) <|
  am_fc (ok_iconst dL_law_753 (by decide) rfl) <|
  am_fc (ok_iadd dL_law_754 rfl) <|
  am_fc (ok_iald dL_law_755 rfl) <|
  am_fc (ok_invV (i := ii_X11_reach) rfl (Or.inr ⟨_, rfl, by decide, rfl⟩) mm_X11_reach dL_law_756 w5_151 rfl) <|
  am_fc (ok_ceq dL_law_759 (by decide) rfl) <|
  am_fc (ok_iconst dL_law_762 (by decide) rfl) <|
  am_fc (ok_zret rfl dL_law_763) <|
  am_fc (ok_aload_n dL_law_764 rfl rfl) <|
  am_fc (ok_aload_n dL_law_765 rfl rfl) <|
  am_fn
set_option maxRecDepth 100000 in
theorem ok_cd_L_law_10 (l : Launch) (D : va_G) (ad : Nat → Nat) (b0 : Nat) (Hb : Heap) : ∀ q ∈ cd_L_law_10, am_ok l D ad b0 Hb am_If yL_law cL_law 4 (some .boolean) q.1 q.2 :=
  am_fc (ok_iload_n dL_law_766 rfl rfl) <|
  am_fc (ok_iconst dL_law_767 (by decide) rfl) <|
  am_fc (ok_iadd dL_law_768 rfl) <|
  am_fc (ok_iald dL_law_769 rfl) <|
  am_fc (ok_invV (i := ii_X10_harm) rfl (Or.inr ⟨_, rfl, by decide, rfl⟩) mm_X10_harm dL_law_770 w2_197 rfl) <|
  am_fc (ok_aload_n dL_law_773 rfl rfl) <|
  am_fc (ok_aload_n dL_law_774 rfl rfl) <|
  am_fc (ok_iload_n dL_law_775 rfl rfl) <|
  am_fc (ok_iconst dL_law_776 (by decide) rfl) <|
  am_fc (ok_iadd dL_law_777 rfl) <|
  am_fc (ok_iald dL_law_778 rfl) <|
  am_fc (ok_invV (i := ii_X11_harm) rfl (Or.inr ⟨_, rfl, by decide, rfl⟩) mm_X11_harm dL_law_779 w5_160 rfl) <|
  am_fc (ok_ceq dL_law_782 (by decide) rfl) <|
  am_fc (ok_iconst dL_law_785 (by decide) rfl) <|
  am_fc (ok_zret rfl dL_law_786) <|
  am_fc (ok_aload_n dL_law_787 rfl rfl) <|
  am_fc (ok_aload_n dL_law_788 rfl rfl) <|
  am_fc (ok_iload_n dL_law_789 rfl rfl) <|
  am_fc (ok_iconst dL_law_790 (by decide) rfl) <|
  am_fc (ok_iadd dL_law_791 rfl) <|
  am_fc (ok_iald dL_law_792 rfl) <|
  am_fc (ok_aload_n dL_law_793 rfl rfl) <|
  am_fc (ok_iload_n dL_law_794 rfl rfl) <|
  am_fc (ok_iconst dL_law_795 (by decide) rfl) <|
  am_fc (ok_iadd dL_law_796 rfl) <|
  am_fc (ok_iald dL_law_797 rfl) <|
  am_fc (ok_invV (i := ii_X10_deny) rfl (Or.inr ⟨_, rfl, by decide, rfl⟩) mm_X10_deny dL_law_798 w2_205 rfl) <|
  am_fc (ok_aload_n dL_law_801 rfl rfl) <|
  am_fc (ok_aload_n dL_law_802 rfl rfl) <|
  am_fc (ok_iload_n dL_law_803 rfl rfl) <|
  am_fc (ok_iconst dL_law_804 (by decide) rfl) <|
  am_fc (ok_iadd dL_law_805 rfl) <|
  am_fc (ok_iald dL_law_806 rfl) <|
  am_fc (ok_aload_n dL_law_807 rfl rfl) <|
  am_fc (ok_iload_n dL_law_808 rfl rfl) <|
  am_fc (ok_iconst dL_law_809 (by decide) rfl) <|
  am_fc (ok_iadd dL_law_810 rfl) <|
  am_fc (ok_iald dL_law_811 rfl) <|
  am_fc (ok_invV (i := ii_X11_deny) rfl (Or.inr ⟨_, rfl, by decide, rfl⟩) mm_X11_deny dL_law_812 w5_168 rfl) <|
  am_fc (ok_ceq dL_law_815 (by decide) rfl) <|
  am_fc (ok_iconst dL_law_818 (by decide) rfl) <|
  am_fc (ok_zret rfl dL_law_819) <|
  am_fc (ok_aload_n dL_law_820 rfl rfl) <|
  am_fc (ok_aload_n dL_law_821 rfl rfl) <|
  am_fc (ok_iload_n dL_law_822 rfl rfl) <|
  am_fc (ok_iconst dL_law_823 (by decide) rfl) <|
  am_fc (ok_iadd dL_law_824 rfl) <|
  am_fc (ok_iald dL_law_825 rfl) <|
  am_fc (ok_invV (i := ii_X10_found) rfl (Or.inr ⟨_, rfl, by decide, rfl⟩) mm_X10_found dL_law_826 w2_223 rfl) <|
  am_fc (ok_aload_n dL_law_829 rfl rfl) <|
  am_fn
set_option maxRecDepth 100000 in
theorem ok_cd_L_law_11 (l : Launch) (D : va_G) (ad : Nat → Nat) (b0 : Nat) (Hb : Heap) : ∀ q ∈ cd_L_law_11, am_ok l D ad b0 Hb am_If yL_law cL_law 4 (some .boolean) q.1 q.2 :=
  am_fc (ok_aload_n dL_law_830 rfl rfl) <|
  am_fc (ok_iload_n dL_law_831 rfl rfl) <|
  am_fc (ok_iconst dL_law_832 (by decide) rfl) <|
  am_fc (ok_iadd dL_law_833 rfl) <|
  am_fc (ok_iald dL_law_834 rfl) <|
  am_fc (ok_invV (i := ii_X11_found) rfl (Or.inr ⟨_, rfl, by decide, rfl⟩) mm_X11_found dL_law_835 w5_189 rfl) <|
  am_fc (ok_ceq dL_law_838 (by decide) rfl) <|
  am_fc (ok_iconst dL_law_841 (by decide) rfl) <|
  am_fc (ok_zret rfl dL_law_842) <|
  am_fc (ok_aload_n dL_law_843 rfl rfl) <|
  am_fc (ok_aload_n dL_law_844 rfl rfl) <|
  am_fc (ok_iload_n dL_law_845 rfl rfl) <|
  am_fc (ok_iconst dL_law_846 (by decide) rfl) <|
  am_fc (ok_iadd dL_law_847 rfl) <|
  am_fc (ok_iald dL_law_848 rfl) <|
  am_fc (ok_invV (i := ii_X10_foretold) rfl (Or.inr ⟨_, rfl, by decide, rfl⟩) mm_X10_foretold dL_law_849 w2_234 rfl) <|
  am_fc (ok_aload_n dL_law_852 rfl rfl) <|
  am_fc (ok_aload_n dL_law_853 rfl rfl) <|
  am_fc (ok_iload_n dL_law_854 rfl rfl) <|
  am_fc (ok_iconst dL_law_855 (by decide) rfl) <|
  am_fc (ok_iadd dL_law_856 rfl) <|
  am_fc (ok_iald dL_law_857 rfl) <|
  am_fc (ok_invV (i := ii_X11_foretold) rfl (Or.inr ⟨_, rfl, by decide, rfl⟩) mm_X11_foretold dL_law_858 w5_193 rfl) <|
  am_fc (ok_ceq dL_law_861 (by decide) rfl) <|
  am_fc (ok_iconst dL_law_864 (by decide) rfl) <|
  am_fc (ok_zret rfl dL_law_865) <|
  am_fc (ok_aload_n dL_law_866 rfl rfl) <|
  am_fc (ok_aload_n dL_law_867 rfl rfl) <|
  am_fc (ok_iload_n dL_law_868 rfl rfl) <|
  am_fc (ok_iconst dL_law_869 (by decide) rfl) <|
  am_fc (ok_iadd dL_law_870 rfl) <|
  am_fc (ok_iald dL_law_871 rfl) <|
  am_fc (ok_aload_n dL_law_872 rfl rfl) <|
  am_fc (ok_iload_n dL_law_873 rfl rfl) <|
  am_fc (ok_iconst dL_law_874 (by decide) rfl) <|
  am_fc (ok_iadd dL_law_875 rfl) <|
  am_fc (ok_iald dL_law_876 rfl) <|
  am_fc (ok_invV (i := ii_X10_wording) rfl (Or.inr ⟨_, rfl, by decide, rfl⟩) mm_X10_wording dL_law_877 w3_6 rfl) <|
  am_fc (ok_aload_n dL_law_880 rfl rfl) <|
  am_fc (ok_aload_n dL_law_881 rfl rfl) <|
  am_fc (ok_iload_n dL_law_882 rfl rfl) <|
  am_fc (ok_iconst dL_law_883 (by decide) rfl) <|
  am_fc (ok_iadd dL_law_884 rfl) <|
  am_fc (ok_iald dL_law_885 rfl) <|
  am_fc (ok_aload_n dL_law_886 rfl rfl) <|
  am_fc (ok_iload_n dL_law_887 rfl rfl) <|
  am_fc (ok_iconst dL_law_888 (by decide) rfl) <|
  am_fc (ok_iadd dL_law_889 rfl) <|
  am_fc (ok_iald dL_law_890 rfl) <|
  am_fc (ok_invV (i := ii_X11_wording) rfl (Or.inr ⟨_, rfl, by decide, rfl⟩) mm_X11_wording dL_law_891 w5_209 rfl) <|
  am_fn
set_option maxRecDepth 100000 in
theorem ok_cd_L_law_12 (l : Launch) (D : va_G) (ad : Nat → Nat) (b0 : Nat) (Hb : Heap) : ∀ q ∈ cd_L_law_12, am_ok l D ad b0 Hb am_If yL_law cL_law 4 (some .boolean) q.1 q.2 :=
  am_fc (ok_ceq dL_law_894 (by decide) rfl) <|
  am_fc (ok_iconst dL_law_897 (by decide) rfl) <|
  am_fc (ok_zret rfl dL_law_898) <|
  am_fc (ok_aload_n dL_law_899 rfl rfl) <|
  am_fc (ok_aload_n dL_law_900 rfl rfl) <|
  am_fc (ok_iload_n dL_law_901 rfl rfl) <|
  am_fc (ok_iconst dL_law_902 (by decide) rfl) <|
  am_fc (ok_iadd dL_law_903 rfl) <|
  am_fc (ok_iald dL_law_904 rfl) <|
  am_fc (ok_aload_n dL_law_905 rfl rfl) <|
  am_fc (ok_iload_n dL_law_906 rfl rfl) <|
  am_fc (ok_iconst dL_law_907 (by decide) rfl) <|
  am_fc (ok_iadd dL_law_908 rfl) <|
  am_fc (ok_iald dL_law_909 rfl) <|
  am_fc (ok_invV (i := ii_X10_plan) rfl (Or.inr ⟨_, rfl, by decide, rfl⟩) mm_X10_plan dL_law_910 w3_10 rfl) <|
  am_fc (ok_aload_n dL_law_913 rfl rfl) <|
  am_fc (ok_aload_n dL_law_914 rfl rfl) <|
  am_fc (ok_iload_n dL_law_915 rfl rfl) <|
  am_fc (ok_iconst dL_law_916 (by decide) rfl) <|
  am_fc (ok_iadd dL_law_917 rfl) <|
  am_fc (ok_iald dL_law_918 rfl) <|
  am_fc (ok_aload_n dL_law_919 rfl rfl) <|
  am_fc (ok_iload_n dL_law_920 rfl rfl) <|
  am_fc (ok_iconst dL_law_921 (by decide) rfl) <|
  am_fc (ok_iadd dL_law_922 rfl) <|
  am_fc (ok_iald dL_law_923 rfl) <|
  am_fc (ok_invV (i := ii_X11_plan) rfl (Or.inr ⟨_, rfl, by decide, rfl⟩) mm_X11_plan dL_law_924 w5_213 rfl) <|
  am_fc (ok_ceq dL_law_927 (by decide) rfl) <|
  am_fc (ok_iconst dL_law_930 (by decide) rfl) <|
  am_fc (ok_zret rfl dL_law_931) <|
  am_fc (ok_aload_n dL_law_932 rfl rfl) <|
  am_fc (ok_aload_n dL_law_933 rfl rfl) <|
  am_fc (ok_iload_n dL_law_934 rfl rfl) <|
  am_fc (ok_iconst dL_law_935 (by decide) rfl) <|
  am_fc (ok_iadd dL_law_936 rfl) <|
  am_fc (ok_iald dL_law_937 rfl) <|
  am_fc (ok_i2l dL_law_938 rfl) <|
  am_fc (ok_bipush dL_law_939 (by decide) rfl) <|
  am_fc (ok_lshl dL_law_941 rfl) <|
  am_fc (ok_aload_n dL_law_942 rfl rfl) <|
  am_fc (ok_iload_n dL_law_943 rfl rfl) <|
  am_fc (ok_iconst dL_law_944 (by decide) rfl) <|
  am_fc (ok_iadd dL_law_945 rfl) <|
  am_fc (ok_iald dL_law_946 rfl) <|
  am_fc (ok_i2l dL_law_947 rfl) <|
  am_fc (ok_ldc2 dL_law_948 w6_117 rfl) <|
  am_fc (ok_land dL_law_951 rfl) <|
  am_fc (ok_lor dL_law_952 rfl) <|
  am_fc (ok_aload_n dL_law_953 rfl rfl) <|
  am_fc (ok_iload_n dL_law_954 rfl rfl) <|
  am_fn
set_option maxRecDepth 100000 in
theorem ok_cd_L_law_13 (l : Launch) (D : va_G) (ad : Nat → Nat) (b0 : Nat) (Hb : Heap) : ∀ q ∈ cd_L_law_13, am_ok l D ad b0 Hb am_If yL_law cL_law 4 (some .boolean) q.1 q.2 :=
  am_fc (ok_iconst dL_law_955 (by decide) rfl) <|
  am_fc (ok_iadd dL_law_956 rfl) <|
  am_fc (ok_iald dL_law_957 rfl) <|
  am_fc (ok_invV (i := ii_X10_type) rfl (Or.inr ⟨_, rfl, by decide, rfl⟩) mm_X10_type dL_law_958 w3_18 rfl) <|
  am_fc (ok_aload_n dL_law_961 rfl rfl) <|
  am_fc (ok_aload_n dL_law_962 rfl rfl) <|
  am_fc (ok_iload_n dL_law_963 rfl rfl) <|
  am_fc (ok_iconst dL_law_964 (by decide) rfl) <|
  am_fc (ok_iadd dL_law_965 rfl) <|
  am_fc (ok_iald dL_law_966 rfl) <|
  am_fc (ok_i2l dL_law_967 rfl) <|
  am_fc (ok_bipush dL_law_968 (by decide) rfl) <|
  am_fc (ok_lshl dL_law_970 rfl) <|
  am_fc (ok_aload_n dL_law_971 rfl rfl) <|
  am_fc (ok_iload_n dL_law_972 rfl rfl) <|
  am_fc (ok_iconst dL_law_973 (by decide) rfl) <|
  am_fc (ok_iadd dL_law_974 rfl) <|
  am_fc (ok_iald dL_law_975 rfl) <|
  am_fc (ok_i2l dL_law_976 rfl) <|
  am_fc (ok_ldc2 dL_law_977 w6_117 rfl) <|
  am_fc (ok_land dL_law_980 rfl) <|
  am_fc (ok_lor dL_law_981 rfl) <|
  am_fc (ok_aload_n dL_law_982 rfl rfl) <|
  am_fc (ok_iload_n dL_law_983 rfl rfl) <|
  am_fc (ok_iconst dL_law_984 (by decide) rfl) <|
  am_fc (ok_iadd dL_law_985 rfl) <|
  am_fc (ok_iald dL_law_986 rfl) <|
  am_fc (ok_invV (i := ii_X11_type) rfl (Or.inr ⟨_, rfl, by decide, rfl⟩) mm_X11_type dL_law_987 w5_221 rfl) <|
  am_fc (ok_ceq dL_law_990 (by decide) rfl) <|
  am_fc (ok_iconst dL_law_993 (by decide) rfl) <|
  am_fc (ok_zret rfl dL_law_994) <|
  am_fc (ok_aload_n dL_law_995 rfl rfl) <|
  am_fc (ok_invV (i := ii_X10_guide) rfl (Or.inr ⟨_, rfl, by decide, rfl⟩) mm_X10_guide dL_law_996 w3_29 rfl) <|
  am_fc (ok_aload_n dL_law_999 rfl rfl) <|
  am_fc (ok_invV (i := ii_X11_guide) rfl (Or.inr ⟨_, rfl, by decide, rfl⟩) mm_X11_guide dL_law_1000 w5_228 rfl) <|
  am_fc (ok_ceq dL_law_1003 (by decide) rfl) <|
  am_fc (ok_iconst dL_law_1006 (by decide) rfl) <|
  am_fc (ok_zret rfl dL_law_1007) <|
  am_fc (ok_aload_n dL_law_1008 rfl rfl) <|
  am_fc (ok_aload_n dL_law_1009 rfl rfl) <|
  am_fc (ok_iload_n dL_law_1010 rfl rfl) <|
  am_fc (ok_iconst dL_law_1011 (by decide) rfl) <|
  am_fc (ok_iadd dL_law_1012 rfl) <|
  am_fc (ok_iald dL_law_1013 rfl) <|
  am_fc (ok_aload_n dL_law_1014 rfl rfl) <|
  am_fc (ok_iload_n dL_law_1015 rfl rfl) <|
  am_fc (ok_iconst dL_law_1016 (by decide) rfl) <|
  am_fc (ok_iadd dL_law_1017 rfl) <|
  am_fc (ok_iald dL_law_1018 rfl) <|
  am_fc (ok_invV (i := ii_X10_why) rfl (Or.inr ⟨_, rfl, by decide, rfl⟩) mm_X10_why dL_law_1019 w3_182 rfl) <|
  am_fn
set_option maxRecDepth 100000 in
theorem ok_cd_L_law_14 (l : Launch) (D : va_G) (ad : Nat → Nat) (b0 : Nat) (Hb : Heap) : ∀ q ∈ cd_L_law_14, am_ok l D ad b0 Hb am_If yL_law cL_law 4 (some .boolean) q.1 q.2 :=
  am_fc (ok_aload_n dL_law_1022 rfl rfl) <|
  am_fc (ok_aload_n dL_law_1023 rfl rfl) <|
  am_fc (ok_iload_n dL_law_1024 rfl rfl) <|
  am_fc (ok_iconst dL_law_1025 (by decide) rfl) <|
  am_fc (ok_iadd dL_law_1026 rfl) <|
  am_fc (ok_iald dL_law_1027 rfl) <|
  am_fc (ok_aload_n dL_law_1028 rfl rfl) <|
  am_fc (ok_iload_n dL_law_1029 rfl rfl) <|
  am_fc (ok_iconst dL_law_1030 (by decide) rfl) <|
  am_fc (ok_iadd dL_law_1031 rfl) <|
  am_fc (ok_iald dL_law_1032 rfl) <|
  am_fc (ok_invV (i := ii_X11_why) rfl (Or.inr ⟨_, rfl, by decide, rfl⟩) mm_X11_why dL_law_1033 w6_19 rfl) <|
  am_fc (ok_ceq dL_law_1036 (by decide) rfl) <|
  am_fc (ok_iconst dL_law_1039 (by decide) rfl) <|
  am_fc (ok_zret rfl dL_law_1040) <|
  am_fc (ok_aload_n dL_law_1041 rfl rfl) <|
  am_fc (ok_aload_n dL_law_1042 rfl rfl) <|
  am_fc (ok_iload_n dL_law_1043 rfl rfl) <|
  am_fc (ok_iconst dL_law_1044 (by decide) rfl) <|
  am_fc (ok_iadd dL_law_1045 rfl) <|
  am_fc (ok_iald dL_law_1046 rfl) <|
  am_fc (ok_invV (i := ii_X10_versions) rfl (Or.inr ⟨_, rfl, by decide, rfl⟩) mm_X10_versions dL_law_1047 w3_198 rfl) <|
  am_fc (ok_aload_n dL_law_1050 rfl rfl) <|
  am_fc (ok_aload_n dL_law_1051 rfl rfl) <|
  am_fc (ok_iload_n dL_law_1052 rfl rfl) <|
  am_fc (ok_iconst dL_law_1053 (by decide) rfl) <|
  am_fc (ok_iadd dL_law_1054 rfl) <|
  am_fc (ok_iald dL_law_1055 rfl) <|
  am_fc (ok_invV (i := ii_X11_versions) rfl (Or.inr ⟨_, rfl, by decide, rfl⟩) mm_X11_versions dL_law_1056 w6_23 rfl) <|
  am_fc (ok_ceq dL_law_1059 (by decide) rfl) <|
  am_fc (ok_iconst dL_law_1062 (by decide) rfl) <|
  am_fc (ok_zret rfl dL_law_1063) <|
  am_fc (ok_aload_n dL_law_1064 rfl rfl) <|
  am_fc (ok_aload_n dL_law_1065 rfl rfl) <|
  am_fc (ok_iload_n dL_law_1066 rfl rfl) <|
  am_fc (ok_iconst dL_law_1067 (by decide) rfl) <|
  am_fc (ok_iadd dL_law_1068 rfl) <|
  am_fc (ok_iald dL_law_1069 rfl) <|
  am_fc (ok_aload_n dL_law_1070 rfl rfl) <|
  am_fc (ok_iload_n dL_law_1071 rfl rfl) <|
  am_fc (ok_iconst dL_law_1072 (by decide) rfl) <|
  am_fc (ok_iadd dL_law_1073 rfl) <|
  am_fc (ok_iald dL_law_1074 rfl) <|
  am_fc (ok_aload_n dL_law_1075 rfl rfl) <|
  am_fc (ok_iload_n dL_law_1076 rfl rfl) <|
  am_fc (ok_iconst dL_law_1077 (by decide) rfl) <|
  am_fc (ok_iadd dL_law_1078 rfl) <|
  am_fc (ok_iald dL_law_1079 rfl) <|
  am_fc (ok_invV (i := ii_X10_version) rfl (Or.inr ⟨_, rfl, by decide, rfl⟩) mm_X10_version dL_law_1080 w3_211 rfl) <|
  am_fc (ok_aload_n dL_law_1083 rfl rfl) <|
  am_fn
set_option maxRecDepth 100000 in
theorem ok_cd_L_law_15 (l : Launch) (D : va_G) (ad : Nat → Nat) (b0 : Nat) (Hb : Heap) : ∀ q ∈ cd_L_law_15, am_ok l D ad b0 Hb am_If yL_law cL_law 4 (some .boolean) q.1 q.2 :=
  am_fc (ok_aload_n dL_law_1084 rfl rfl) <|
  am_fc (ok_iload_n dL_law_1085 rfl rfl) <|
  am_fc (ok_iconst dL_law_1086 (by decide) rfl) <|
  am_fc (ok_iadd dL_law_1087 rfl) <|
  am_fc (ok_iald dL_law_1088 rfl) <|
  am_fc (ok_aload_n dL_law_1089 rfl rfl) <|
  am_fc (ok_iload_n dL_law_1090 rfl rfl) <|
  am_fc (ok_iconst dL_law_1091 (by decide) rfl) <|
  am_fc (ok_iadd dL_law_1092 rfl) <|
  am_fc (ok_iald dL_law_1093 rfl) <|
  am_fc (ok_aload_n dL_law_1094 rfl rfl) <|
  am_fc (ok_iload_n dL_law_1095 rfl rfl) <|
  am_fc (ok_iconst dL_law_1096 (by decide) rfl) <|
  am_fc (ok_iadd dL_law_1097 rfl) <|
  am_fc (ok_iald dL_law_1098 rfl) <|
  am_fc (ok_invV (i := ii_X11_version) rfl (Or.inr ⟨_, rfl, by decide, rfl⟩) mm_X11_version dL_law_1099 w6_31 rfl) <|
  am_fc (ok_ceq dL_law_1102 (by decide) rfl) <|
  am_fc (ok_iconst dL_law_1105 (by decide) rfl) <|
  am_fc (ok_zret rfl dL_law_1106) <|
  am_fc (ok_aload_n dL_law_1107 rfl rfl) <|
  am_fc (ok_aload_n dL_law_1108 rfl rfl) <|
  am_fc (ok_iload_n dL_law_1109 rfl rfl) <|
  am_fc (ok_iconst dL_law_1110 (by decide) rfl) <|
  am_fc (ok_iadd dL_law_1111 rfl) <|
  am_fc (ok_iald dL_law_1112 rfl) <|
  am_fc (ok_invV (i := ii_X10_kin) rfl (Or.inr ⟨_, rfl, by decide, rfl⟩) mm_X10_kin dL_law_1113 w3_226 rfl) <|
  am_fc (ok_aload_n dL_law_1116 rfl rfl) <|
  am_fc (ok_aload_n dL_law_1117 rfl rfl) <|
  am_fc (ok_iload_n dL_law_1118 rfl rfl) <|
  am_fc (ok_iconst dL_law_1119 (by decide) rfl) <|
  am_fc (ok_iadd dL_law_1120 rfl) <|
  am_fc (ok_iald dL_law_1121 rfl) <|
  am_fc (ok_invV (i := ii_X11_kin) rfl (Or.inr ⟨_, rfl, by decide, rfl⟩) mm_X11_kin dL_law_1122 w6_42 rfl) <|
  am_fc (ok_ceq dL_law_1125 (by decide) rfl) <|
  am_fc (ok_iconst dL_law_1128 (by decide) rfl) <|
  am_fc (ok_zret rfl dL_law_1129) <|
  am_fc (ok_aload_n dL_law_1130 rfl rfl) <|
  am_fc (ok_aload_n dL_law_1131 rfl rfl) <|
  am_fc (ok_iload_n dL_law_1132 rfl rfl) <|
  am_fc (ok_iconst dL_law_1133 (by decide) rfl) <|
  am_fc (ok_iadd dL_law_1134 rfl) <|
  am_fc (ok_iald dL_law_1135 rfl) <|
  am_fc (ok_aload_n dL_law_1136 rfl rfl) <|
  am_fc (ok_iload_n dL_law_1137 rfl rfl) <|
  am_fc (ok_iconst dL_law_1138 (by decide) rfl) <|
  am_fc (ok_iadd dL_law_1139 rfl) <|
  am_fc (ok_iald dL_law_1140 rfl) <|
  am_fc (ok_aload_n dL_law_1141 rfl rfl) <|
  am_fc (ok_iload_n dL_law_1142 rfl rfl) <|
  am_fc (ok_iconst dL_law_1143 (by decide) rfl) <|
  am_fn
set_option maxRecDepth 100000 in
theorem ok_cd_L_law_16 (l : Launch) (D : va_G) (ad : Nat → Nat) (b0 : Nat) (Hb : Heap) : ∀ q ∈ cd_L_law_16, am_ok l D ad b0 Hb am_If yL_law cL_law 4 (some .boolean) q.1 q.2 :=
  am_fc (ok_iadd dL_law_1144 rfl) <|
  am_fc (ok_iald dL_law_1145 rfl) <|
  am_fc (ok_ifeq dL_law_1146 (by decide) rfl) <|
  am_fc (ok_iconst dL_law_1149 (by decide) rfl) <|
  am_fc (ok_goto dL_law_1150 (by decide)) <|
  am_fc (ok_iconst dL_law_1153 (by decide) rfl) <|
  am_fc (ok_invV (i := ii_X10_report) rfl (Or.inr ⟨_, rfl, by decide, rfl⟩) mm_X10_report dL_law_1154 w3_230 rfl) <|
  am_fc (ok_aload_n dL_law_1157 rfl rfl) <|
  am_fc (ok_aload_n dL_law_1158 rfl rfl) <|
  am_fc (ok_iload_n dL_law_1159 rfl rfl) <|
  am_fc (ok_iconst dL_law_1160 (by decide) rfl) <|
  am_fc (ok_iadd dL_law_1161 rfl) <|
  am_fc (ok_iald dL_law_1162 rfl) <|
  am_fc (ok_aload_n dL_law_1163 rfl rfl) <|
  am_fc (ok_iload_n dL_law_1164 rfl rfl) <|
  am_fc (ok_iconst dL_law_1165 (by decide) rfl) <|
  am_fc (ok_iadd dL_law_1166 rfl) <|
  am_fc (ok_iald dL_law_1167 rfl) <|
  am_fc (ok_aload_n dL_law_1168 rfl rfl) <|
  am_fc (ok_iload_n dL_law_1169 rfl rfl) <|
  am_fc (ok_iconst dL_law_1170 (by decide) rfl) <|
  am_fc (ok_iadd dL_law_1171 rfl) <|
  am_fc (ok_iald dL_law_1172 rfl) <|
  am_fc (ok_ifeq dL_law_1173 (by decide) rfl) <|
  am_fc (ok_iconst dL_law_1176 (by decide) rfl) <|
  am_fc (ok_goto dL_law_1177 (by decide)) <|
  am_fc (ok_iconst dL_law_1180 (by decide) rfl) <|
  am_fc (ok_invV (i := ii_X11_report) rfl (Or.inr ⟨_, rfl, by decide, rfl⟩) mm_X11_report dL_law_1181 w6_46 rfl) <|
  am_fc (ok_ceq dL_law_1184 (by decide) rfl) <|
  am_fc (ok_iconst dL_law_1187 (by decide) rfl) <|
  am_fc (ok_zret rfl dL_law_1188) <|
  am_fc (ok_aload_n dL_law_1189 rfl rfl) <|
  am_fc (ok_invV (i := ii_X10_clear) rfl (Or.inr ⟨_, rfl, by decide, rfl⟩) mm_X10_clear dL_law_1190 w3_239 rfl) <|
  am_fc (ok_aload_n dL_law_1193 rfl rfl) <|
  am_fc (ok_invV (i := ii_X11_clear) rfl (Or.inr ⟨_, rfl, by decide, rfl⟩) mm_X11_clear dL_law_1194 w6_51 rfl) <|
  am_fc (ok_ceq dL_law_1197 (by decide) rfl) <|
  am_fc (ok_iconst dL_law_1200 (by decide) rfl) <|
  am_fc (ok_zret rfl dL_law_1201) <|
  am_fc (ok_aload_n dL_law_1202 rfl rfl) <|
  am_fc (ok_aload_n dL_law_1203 rfl rfl) <|
  am_fc (ok_iload_n dL_law_1204 rfl rfl) <|
  am_fc (ok_iconst dL_law_1205 (by decide) rfl) <|
  am_fc (ok_iadd dL_law_1206 rfl) <|
  am_fc (ok_iald dL_law_1207 rfl) <|
  am_fc (ok_aload_n dL_law_1208 rfl rfl) <|
  am_fc (ok_iload_n dL_law_1209 rfl rfl) <|
  am_fc (ok_iconst dL_law_1210 (by decide) rfl) <|
  am_fc (ok_iadd dL_law_1211 rfl) <|
  am_fc (ok_iald dL_law_1212 rfl) <|
  am_fc (ok_aload_n dL_law_1213 rfl rfl) <|
  am_fn
set_option maxRecDepth 100000 in
theorem ok_cd_L_law_17 (l : Launch) (D : va_G) (ad : Nat → Nat) (b0 : Nat) (Hb : Heap) : ∀ q ∈ cd_L_law_17, am_ok l D ad b0 Hb am_If yL_law cL_law 4 (some .boolean) q.1 q.2 :=
  am_fc (ok_iload_n dL_law_1214 rfl rfl) <|
  am_fc (ok_iconst dL_law_1215 (by decide) rfl) <|
  am_fc (ok_iadd dL_law_1216 rfl) <|
  am_fc (ok_iald dL_law_1217 rfl) <|
  am_fc (ok_invV (i := ii_X10_could) rfl (Or.inr ⟨_, rfl, by decide, rfl⟩) mm_X10_could dL_law_1218 w4_7 rfl) <|
  am_fc (ok_aload_n dL_law_1221 rfl rfl) <|
  am_fc (ok_aload_n dL_law_1222 rfl rfl) <|
  am_fc (ok_iload_n dL_law_1223 rfl rfl) <|
  am_fc (ok_iconst dL_law_1224 (by decide) rfl) <|
  am_fc (ok_iadd dL_law_1225 rfl) <|
  am_fc (ok_iald dL_law_1226 rfl) <|
  am_fc (ok_aload_n dL_law_1227 rfl rfl) <|
  am_fc (ok_iload_n dL_law_1228 rfl rfl) <|
  am_fc (ok_iconst dL_law_1229 (by decide) rfl) <|
  am_fc (ok_iadd dL_law_1230 rfl) <|
  am_fc (ok_iald dL_law_1231 rfl) <|
  am_fc (ok_aload_n dL_law_1232 rfl rfl) <|
  am_fc (ok_iload_n dL_law_1233 rfl rfl) <|
  am_fc (ok_iconst dL_law_1234 (by decide) rfl) <|
  am_fc (ok_iadd dL_law_1235 rfl) <|
  am_fc (ok_iald dL_law_1236 rfl) <|
  am_fc (ok_invV (i := ii_X11_could) rfl (Or.inr ⟨_, rfl, by decide, rfl⟩) mm_X11_could dL_law_1237 w6_55 rfl) <|
  am_fc (ok_ceq dL_law_1240 (by decide) rfl) <|
  am_fc (ok_iconst dL_law_1243 (by decide) rfl) <|
  am_fc (ok_zret rfl dL_law_1244) <|
  am_fc (ok_aload_n dL_law_1245 rfl rfl) <|
  am_fc (ok_aload_n dL_law_1246 rfl rfl) <|
  am_fc (ok_iload_n dL_law_1247 rfl rfl) <|
  am_fc (ok_iconst dL_law_1248 (by decide) rfl) <|
  am_fc (ok_iadd dL_law_1249 rfl) <|
  am_fc (ok_iald dL_law_1250 rfl) <|
  am_fc (ok_invV (i := ii_X10_first) rfl (Or.inr ⟨_, rfl, by decide, rfl⟩) mm_X10_first dL_law_1251 w4_24 rfl) <|
  am_fc (ok_aload_n dL_law_1254 rfl rfl) <|
  am_fc (ok_aload_n dL_law_1255 rfl rfl) <|
  am_fc (ok_iload_n dL_law_1256 rfl rfl) <|
  am_fc (ok_iconst dL_law_1257 (by decide) rfl) <|
  am_fc (ok_iadd dL_law_1258 rfl) <|
  am_fc (ok_iald dL_law_1259 rfl) <|
  am_fc (ok_invV (i := ii_X11_first) rfl (Or.inr ⟨_, rfl, by decide, rfl⟩) mm_X11_first dL_law_1260 w6_71 rfl) <|
  am_fc (ok_ceq dL_law_1263 (by decide) rfl) <|
  am_fc (ok_iconst dL_law_1266 (by decide) rfl) <|
  am_fc (ok_zret rfl dL_law_1267) <|
  am_fc (ok_aload_n dL_law_1268 rfl rfl) <|
  am_fc (ok_aload_n dL_law_1269 rfl rfl) <|
  am_fc (ok_iload_n dL_law_1270 rfl rfl) <|
  am_fc (ok_iconst dL_law_1271 (by decide) rfl) <|
  am_fc (ok_iadd dL_law_1272 rfl) <|
  am_fc (ok_iald dL_law_1273 rfl) <|
  am_fc (ok_aload_n dL_law_1274 rfl rfl) <|
  am_fc (ok_iload_n dL_law_1275 rfl rfl) <|
  am_fn
set_option maxRecDepth 100000 in
theorem ok_cd_L_law_18 (l : Launch) (D : va_G) (ad : Nat → Nat) (b0 : Nat) (Hb : Heap) : ∀ q ∈ cd_L_law_18, am_ok l D ad b0 Hb am_If yL_law cL_law 4 (some .boolean) q.1 q.2 :=
  am_fc (ok_iconst dL_law_1276 (by decide) rfl) <|
  am_fc (ok_iadd dL_law_1277 rfl) <|
  am_fc (ok_iald dL_law_1278 rfl) <|
  am_fc (ok_invV (i := ii_X10_posts) rfl (Or.inr ⟨_, rfl, by decide, rfl⟩) mm_X10_posts dL_law_1279 w4_32 rfl) <|
  am_fc (ok_aload_n dL_law_1282 rfl rfl) <|
  am_fc (ok_aload_n dL_law_1283 rfl rfl) <|
  am_fc (ok_iload_n dL_law_1284 rfl rfl) <|
  am_fc (ok_iconst dL_law_1285 (by decide) rfl) <|
  am_fc (ok_iadd dL_law_1286 rfl) <|
  am_fc (ok_iald dL_law_1287 rfl) <|
  am_fc (ok_aload_n dL_law_1288 rfl rfl) <|
  am_fc (ok_iload_n dL_law_1289 rfl rfl) <|
  am_fc (ok_iconst dL_law_1290 (by decide) rfl) <|
  am_fc (ok_iadd dL_law_1291 rfl) <|
  am_fc (ok_iald dL_law_1292 rfl) <|
  am_fc (ok_invV (i := ii_X11_posts) rfl (Or.inr ⟨_, rfl, by decide, rfl⟩) mm_X11_posts dL_law_1293 w6_75 rfl) <|
  am_fc (ok_ceq dL_law_1296 (by decide) rfl) <|
  am_fc (ok_iconst dL_law_1299 (by decide) rfl) <|
  am_fc (ok_zret rfl dL_law_1300) <|
  am_fc (ok_aload_n dL_law_1301 rfl rfl) <|
  am_fc (ok_aload_n dL_law_1302 rfl rfl) <|
  am_fc (ok_iload_n dL_law_1303 rfl rfl) <|
  am_fc (ok_iconst dL_law_1304 (by decide) rfl) <|
  am_fc (ok_iadd dL_law_1305 rfl) <|
  am_fc (ok_iald dL_law_1306 rfl) <|
  am_fc (ok_aload_n dL_law_1307 rfl rfl) <|
  am_fc (ok_iload_n dL_law_1308 rfl rfl) <|
  am_fc (ok_iconst dL_law_1309 (by decide) rfl) <|
  am_fc (ok_iadd dL_law_1310 rfl) <|
  am_fc (ok_iald dL_law_1311 rfl) <|
  am_fc (ok_aload_n dL_law_1312 rfl rfl) <|
  am_fc (ok_iload_n dL_law_1313 rfl rfl) <|
  am_fc (ok_iconst dL_law_1314 (by decide) rfl) <|
  am_fc (ok_iadd dL_law_1315 rfl) <|
  am_fc (ok_iald dL_law_1316 rfl) <|
  am_fc (ok_aload_n dL_law_1317 rfl rfl) <|
  am_fc (ok_iload_n dL_law_1318 rfl rfl) <|
  am_fc (ok_iconst dL_law_1319 (by decide) rfl) <|
  am_fc (ok_iadd dL_law_1320 rfl) <|
  am_fc (ok_iald dL_law_1321 rfl) <|
  am_fc (ok_aload_n dL_law_1322 rfl rfl) <|
  am_fc (ok_iload_n dL_law_1323 rfl rfl) <|
  am_fc (ok_iconst dL_law_1324 (by decide) rfl) <|
  am_fc (ok_iadd dL_law_1325 rfl) <|
  am_fc (ok_iald dL_law_1326 rfl) <|
  am_fc (ok_invV (i := ii_X10_check) rfl (Or.inr ⟨_, rfl, by decide, rfl⟩) mm_X10_check dL_law_1327 w4_56 rfl) <|
  am_fc (ok_aload_n dL_law_1330 rfl rfl) <|
  am_fc (ok_aload_n dL_law_1331 rfl rfl) <|
  am_fc (ok_iload_n dL_law_1332 rfl rfl) <|
  am_fc (ok_iconst dL_law_1333 (by decide) rfl) <|
  am_fn
set_option maxRecDepth 100000 in
theorem ok_cd_L_law_19 (l : Launch) (D : va_G) (ad : Nat → Nat) (b0 : Nat) (Hb : Heap) : ∀ q ∈ cd_L_law_19, am_ok l D ad b0 Hb am_If yL_law cL_law 4 (some .boolean) q.1 q.2 :=
  am_fc (ok_iadd dL_law_1334 rfl) <|
  am_fc (ok_iald dL_law_1335 rfl) <|
  am_fc (ok_aload_n dL_law_1336 rfl rfl) <|
  am_fc (ok_iload_n dL_law_1337 rfl rfl) <|
  am_fc (ok_iconst dL_law_1338 (by decide) rfl) <|
  am_fc (ok_iadd dL_law_1339 rfl) <|
  am_fc (ok_iald dL_law_1340 rfl) <|
  am_fc (ok_aload_n dL_law_1341 rfl rfl) <|
  am_fc (ok_iload_n dL_law_1342 rfl rfl) <|
  am_fc (ok_iconst dL_law_1343 (by decide) rfl) <|
  am_fc (ok_iadd dL_law_1344 rfl) <|
  am_fc (ok_iald dL_law_1345 rfl) <|
  am_fc (ok_aload_n dL_law_1346 rfl rfl) <|
  am_fc (ok_iload_n dL_law_1347 rfl rfl) <|
  am_fc (ok_iconst dL_law_1348 (by decide) rfl) <|
  am_fc (ok_iadd dL_law_1349 rfl) <|
  am_fc (ok_iald dL_law_1350 rfl) <|
  am_fc (ok_aload_n dL_law_1351 rfl rfl) <|
  am_fc (ok_iload_n dL_law_1352 rfl rfl) <|
  am_fc (ok_iconst dL_law_1353 (by decide) rfl) <|
  am_fc (ok_iadd dL_law_1354 rfl) <|
  am_fc (ok_iald dL_law_1355 rfl) <|
  am_fc (ok_invV (i := ii_X11_check) rfl (Or.inr ⟨_, rfl, by decide, rfl⟩) mm_X11_check dL_law_1356 w6_83 rfl) <|
  am_fc (ok_ceq dL_law_1359 (by decide) rfl) <|
  am_fc (ok_iconst dL_law_1362 (by decide) rfl) <|
  am_fc (ok_zret rfl dL_law_1363) <|
  am_fc (ok_aload_n dL_law_1364 rfl rfl) <|
  am_fc (ok_aload_n dL_law_1365 rfl rfl) <|
  am_fc (ok_iload_n dL_law_1366 rfl rfl) <|
  am_fc (ok_iconst dL_law_1367 (by decide) rfl) <|
  am_fc (ok_iadd dL_law_1368 rfl) <|
  am_fc (ok_iald dL_law_1369 rfl) <|
  am_fc (ok_aload_n dL_law_1370 rfl rfl) <|
  am_fc (ok_iload_n dL_law_1371 rfl rfl) <|
  am_fc (ok_iconst dL_law_1372 (by decide) rfl) <|
  am_fc (ok_iadd dL_law_1373 rfl) <|
  am_fc (ok_iald dL_law_1374 rfl) <|
  am_fc (ok_aload_n dL_law_1375 rfl rfl) <|
  am_fc (ok_iload_n dL_law_1376 rfl rfl) <|
  am_fc (ok_iconst dL_law_1377 (by decide) rfl) <|
  am_fc (ok_iadd dL_law_1378 rfl) <|
  am_fc (ok_iald dL_law_1379 rfl) <|
  am_fc (ok_invV (i := ii_X10_sheet) rfl (Or.inr ⟨_, rfl, by decide, rfl⟩) mm_X10_sheet dL_law_1380 w4_75 rfl) <|
  am_fc (ok_aload_n dL_law_1383 rfl rfl) <|
  am_fc (ok_aload_n dL_law_1384 rfl rfl) <|
  am_fc (ok_iload_n dL_law_1385 rfl rfl) <|
  am_fc (ok_iconst dL_law_1386 (by decide) rfl) <|
  am_fc (ok_iadd dL_law_1387 rfl) <|
  am_fc (ok_iald dL_law_1388 rfl) <|
  am_fc (ok_aload_n dL_law_1389 rfl rfl) <|
  am_fn
set_option maxRecDepth 100000 in
theorem ok_cd_L_law_20 (l : Launch) (D : va_G) (ad : Nat → Nat) (b0 : Nat) (Hb : Heap) : ∀ q ∈ cd_L_law_20, am_ok l D ad b0 Hb am_If yL_law cL_law 4 (some .boolean) q.1 q.2 :=
  am_fc (ok_iload_n dL_law_1390 rfl rfl) <|
  am_fc (ok_iconst dL_law_1391 (by decide) rfl) <|
  am_fc (ok_iadd dL_law_1392 rfl) <|
  am_fc (ok_iald dL_law_1393 rfl) <|
  am_fc (ok_aload_n dL_law_1394 rfl rfl) <|
  am_fc (ok_iload_n dL_law_1395 rfl rfl) <|
  am_fc (ok_iconst dL_law_1396 (by decide) rfl) <|
  am_fc (ok_iadd dL_law_1397 rfl) <|
  am_fc (ok_iald dL_law_1398 rfl) <|
  am_fc (ok_invV (i := ii_X11_sheet) rfl (Or.inr ⟨_, rfl, by decide, rfl⟩) mm_X11_sheet dL_law_1399 w6_94 rfl) <|
  am_fc (ok_ceq dL_law_1402 (by decide) rfl) <|
  am_fc (ok_iconst dL_law_1405 (by decide) rfl) <|
  am_fc (ok_zret rfl dL_law_1406) <|
  am_fc (ok_aload_n dL_law_1407 rfl rfl) <|
  am_fc (ok_aload_n dL_law_1408 rfl rfl) <|
  am_fc (ok_iload_n dL_law_1409 rfl rfl) <|
  am_fc (ok_iconst dL_law_1410 (by decide) rfl) <|
  am_fc (ok_iadd dL_law_1411 rfl) <|
  am_fc (ok_iald dL_law_1412 rfl) <|
  am_fc (ok_invV (i := ii_X10_drop) rfl (Or.inr ⟨_, rfl, by decide, rfl⟩) mm_X10_drop dL_law_1413 w4_83 rfl) <|
  am_fc (ok_aload_n dL_law_1416 rfl rfl) <|
  am_fc (ok_aload_n dL_law_1417 rfl rfl) <|
  am_fc (ok_iload_n dL_law_1418 rfl rfl) <|
  am_fc (ok_iconst dL_law_1419 (by decide) rfl) <|
  am_fc (ok_iadd dL_law_1420 rfl) <|
  am_fc (ok_iald dL_law_1421 rfl) <|
  am_fc (ok_invV (i := ii_X11_drop) rfl (Or.inr ⟨_, rfl, by decide, rfl⟩) mm_X11_drop dL_law_1422 w6_101 rfl) <|
  am_fc (ok_ceq dL_law_1425 (by decide) rfl) <|
  am_fc (ok_iconst dL_law_1428 (by decide) rfl) <|
  am_fc (ok_zret rfl dL_law_1429) <|
  am_fc (ok_aload_n dL_law_1430 rfl rfl) <|
  am_fc (ok_aload_n dL_law_1431 rfl rfl) <|
  am_fc (ok_iload_n dL_law_1432 rfl rfl) <|
  am_fc (ok_iconst dL_law_1433 (by decide) rfl) <|
  am_fc (ok_iadd dL_law_1434 rfl) <|
  am_fc (ok_iald dL_law_1435 rfl) <|
  am_fc (ok_aload_n dL_law_1436 rfl rfl) <|
  am_fc (ok_iload_n dL_law_1437 rfl rfl) <|
  am_fc (ok_iconst dL_law_1438 (by decide) rfl) <|
  am_fc (ok_iadd dL_law_1439 rfl) <|
  am_fc (ok_iald dL_law_1440 rfl) <|
  am_fc (ok_aload_n dL_law_1441 rfl rfl) <|
  am_fc (ok_iload_n dL_law_1442 rfl rfl) <|
  am_fc (ok_iconst dL_law_1443 (by decide) rfl) <|
  am_fc (ok_iadd dL_law_1444 rfl) <|
  am_fc (ok_iald dL_law_1445 rfl) <|
  am_fc (ok_aload_n dL_law_1446 rfl rfl) <|
  am_fc (ok_iload_n dL_law_1447 rfl rfl) <|
  am_fc (ok_iconst dL_law_1448 (by decide) rfl) <|
  am_fc (ok_iadd dL_law_1449 rfl) <|
  am_fn
set_option maxRecDepth 100000 in
theorem ok_cd_L_law_21 (l : Launch) (D : va_G) (ad : Nat → Nat) (b0 : Nat) (Hb : Heap) : ∀ q ∈ cd_L_law_21, am_ok l D ad b0 Hb am_If yL_law cL_law 4 (some .boolean) q.1 q.2 :=
  am_fc (ok_iald dL_law_1450 rfl) <|
  am_fc (ok_invV (i := ii_X10_item) rfl (Or.inr ⟨_, rfl, by decide, rfl⟩) mm_X10_item dL_law_1451 w4_88 rfl) <|
  am_fc (ok_aload_n dL_law_1454 rfl rfl) <|
  am_fc (ok_aload_n dL_law_1455 rfl rfl) <|
  am_fc (ok_iload_n dL_law_1456 rfl rfl) <|
  am_fc (ok_iconst dL_law_1457 (by decide) rfl) <|
  am_fc (ok_iadd dL_law_1458 rfl) <|
  am_fc (ok_iald dL_law_1459 rfl) <|
  am_fc (ok_aload_n dL_law_1460 rfl rfl) <|
  am_fc (ok_iload_n dL_law_1461 rfl rfl) <|
  am_fc (ok_iconst dL_law_1462 (by decide) rfl) <|
  am_fc (ok_iadd dL_law_1463 rfl) <|
  am_fc (ok_iald dL_law_1464 rfl) <|
  am_fc (ok_aload_n dL_law_1465 rfl rfl) <|
  am_fc (ok_iload_n dL_law_1466 rfl rfl) <|
  am_fc (ok_iconst dL_law_1467 (by decide) rfl) <|
  am_fc (ok_iadd dL_law_1468 rfl) <|
  am_fc (ok_iald dL_law_1469 rfl) <|
  am_fc (ok_aload_n dL_law_1470 rfl rfl) <|
  am_fc (ok_iload_n dL_law_1471 rfl rfl) <|
  am_fc (ok_iconst dL_law_1472 (by decide) rfl) <|
  am_fc (ok_iadd dL_law_1473 rfl) <|
  am_fc (ok_iald dL_law_1474 rfl) <|
  am_fc (ok_invV (i := ii_X11_item) rfl (Or.inr ⟨_, rfl, by decide, rfl⟩) mm_X11_item dL_law_1475 w6_105 rfl) <|
  am_fc (ok_ceq dL_law_1478 (by decide) rfl) <|
  am_fc (ok_iconst dL_law_1481 (by decide) rfl) <|
  am_fc (ok_zret rfl dL_law_1482) <|
  am_fc (ok_aload_n dL_law_1483 rfl rfl) <|
  am_fc (ok_aload_n dL_law_1484 rfl rfl) <|
  am_fc (ok_iload_n dL_law_1485 rfl rfl) <|
  am_fc (ok_iconst dL_law_1486 (by decide) rfl) <|
  am_fc (ok_iadd dL_law_1487 rfl) <|
  am_fc (ok_iald dL_law_1488 rfl) <|
  am_fc (ok_aload_n dL_law_1489 rfl rfl) <|
  am_fc (ok_iload_n dL_law_1490 rfl rfl) <|
  am_fc (ok_iconst dL_law_1491 (by decide) rfl) <|
  am_fc (ok_iadd dL_law_1492 rfl) <|
  am_fc (ok_iald dL_law_1493 rfl) <|
  am_fc (ok_aload_n dL_law_1494 rfl rfl) <|
  am_fc (ok_iload_n dL_law_1495 rfl rfl) <|
  am_fc (ok_iconst dL_law_1496 (by decide) rfl) <|
  am_fc (ok_iadd dL_law_1497 rfl) <|
  am_fc (ok_iald dL_law_1498 rfl) <|
  am_fc (ok_aload_n dL_law_1499 rfl rfl) <|
  am_fc (ok_iload_n dL_law_1500 rfl rfl) <|
  am_fc (ok_iconst dL_law_1501 (by decide) rfl) <|
  am_fc (ok_iadd dL_law_1502 rfl) <|
  am_fc (ok_iald dL_law_1503 rfl) <|
  am_fc (ok_aload_n dL_law_1504 rfl rfl) <|
  am_fc (ok_iload_n dL_law_1505 rfl rfl) <|
  am_fn
set_option maxRecDepth 100000 in
theorem ok_cd_L_law_22 (l : Launch) (D : va_G) (ad : Nat → Nat) (b0 : Nat) (Hb : Heap) : ∀ q ∈ cd_L_law_22, am_ok l D ad b0 Hb am_If yL_law cL_law 4 (some .boolean) q.1 q.2 :=
  am_fc (ok_iconst dL_law_1506 (by decide) rfl) <|
  am_fc (ok_iadd dL_law_1507 rfl) <|
  am_fc (ok_iald dL_law_1508 rfl) <|
  am_fc (ok_invV (i := ii_X10_copy) rfl (Or.inr ⟨_, rfl, by decide, rfl⟩) mm_X10_copy dL_law_1509 w4_95 rfl) <|
  am_fc (ok_aload_n dL_law_1512 rfl rfl) <|
  am_fc (ok_aload_n dL_law_1513 rfl rfl) <|
  am_fc (ok_iload_n dL_law_1514 rfl rfl) <|
  am_fc (ok_iconst dL_law_1515 (by decide) rfl) <|
  am_fc (ok_iadd dL_law_1516 rfl) <|
  am_fc (ok_iald dL_law_1517 rfl) <|
  am_fc (ok_aload_n dL_law_1518 rfl rfl) <|
  am_fc (ok_iload_n dL_law_1519 rfl rfl) <|
  am_fc (ok_iconst dL_law_1520 (by decide) rfl) <|
  am_fc (ok_iadd dL_law_1521 rfl) <|
  am_fc (ok_iald dL_law_1522 rfl) <|
  am_fc (ok_aload_n dL_law_1523 rfl rfl) <|
  am_fc (ok_iload_n dL_law_1524 rfl rfl) <|
  am_fc (ok_iconst dL_law_1525 (by decide) rfl) <|
  am_fc (ok_iadd dL_law_1526 rfl) <|
  am_fc (ok_iald dL_law_1527 rfl) <|
  am_fc (ok_aload_n dL_law_1528 rfl rfl) <|
  am_fc (ok_iload_n dL_law_1529 rfl rfl) <|
  am_fc (ok_iconst dL_law_1530 (by decide) rfl) <|
  am_fc (ok_iadd dL_law_1531 rfl) <|
  am_fc (ok_iald dL_law_1532 rfl) <|
  am_fc (ok_aload_n dL_law_1533 rfl rfl) <|
  am_fc (ok_iload_n dL_law_1534 rfl rfl) <|
  am_fc (ok_iconst dL_law_1535 (by decide) rfl) <|
  am_fc (ok_iadd dL_law_1536 rfl) <|
  am_fc (ok_iald dL_law_1537 rfl) <|
  am_fc (ok_invV (i := ii_X11_copy) rfl (Or.inr ⟨_, rfl, by decide, rfl⟩) mm_X11_copy dL_law_1538 w6_109 rfl) <|
  am_fc (ok_ceq dL_law_1541 (by decide) rfl) <|
  am_fc (ok_iconst dL_law_1544 (by decide) rfl) <|
  am_fc (ok_zret rfl dL_law_1545) <|
  am_fc (ok_aload_n dL_law_1546 rfl rfl) <|
  am_fc (ok_aload_n dL_law_1547 rfl rfl) <|
  am_fc (ok_iload_n dL_law_1548 rfl rfl) <|
  am_fc (ok_iconst dL_law_1549 (by decide) rfl) <|
  am_fc (ok_iadd dL_law_1550 rfl) <|
  am_fc (ok_iald dL_law_1551 rfl) <|
  am_fc (ok_aload_n dL_law_1552 rfl rfl) <|
  am_fc (ok_iload_n dL_law_1553 rfl rfl) <|
  am_fc (ok_iconst dL_law_1554 (by decide) rfl) <|
  am_fc (ok_iadd dL_law_1555 rfl) <|
  am_fc (ok_iald dL_law_1556 rfl) <|
  am_fc (ok_invV (i := ii_X10_reads) rfl (Or.inr ⟨_, rfl, by decide, rfl⟩) mm_X10_reads dL_law_1557 w4_103 rfl) <|
  am_fc (ok_aload_n dL_law_1560 rfl rfl) <|
  am_fc (ok_aload_n dL_law_1561 rfl rfl) <|
  am_fc (ok_iload_n dL_law_1562 rfl rfl) <|
  am_fc (ok_iconst dL_law_1563 (by decide) rfl) <|
  am_fn
set_option maxRecDepth 100000 in
theorem ok_cd_L_law_23 (l : Launch) (D : va_G) (ad : Nat → Nat) (b0 : Nat) (Hb : Heap) : ∀ q ∈ cd_L_law_23, am_ok l D ad b0 Hb am_If yL_law cL_law 4 (some .boolean) q.1 q.2 :=
  am_fc (ok_iadd dL_law_1564 rfl) <|
  am_fc (ok_iald dL_law_1565 rfl) <|
  am_fc (ok_aload_n dL_law_1566 rfl rfl) <|
  am_fc (ok_iload_n dL_law_1567 rfl rfl) <|
  am_fc (ok_iconst dL_law_1568 (by decide) rfl) <|
  am_fc (ok_iadd dL_law_1569 rfl) <|
  am_fc (ok_iald dL_law_1570 rfl) <|
  am_fc (ok_invV (i := ii_X11_reads) rfl (Or.inr ⟨_, rfl, by decide, rfl⟩) mm_X11_reads dL_law_1571 w6_113 rfl) <|
  am_fc (ok_ceq dL_law_1574 (by decide) rfl) <|
  am_fc (ok_iconst dL_law_1577 (by decide) rfl) <|
  am_fc (ok_zret rfl dL_law_1578) <|
  am_fc (ok_iinc dL_law_1579 (by decide) rfl) <|
  am_fc (ok_goto dL_law_1582 (by decide)) <|
  am_fc (ok_iconst dL_law_1585 (by decide) rfl) <|
  am_fc (ok_zret rfl dL_law_1586) <|
  am_fn
theorem ok_cd_L_law (l : Launch) (D : va_G) (ad : Nat → Nat) (b0 : Nat) (Hb : Heap) : ∀ q ∈ cd_L_law, am_ok l D ad b0 Hb am_If yL_law cL_law 4 (some .boolean) q.1 q.2 := am_fa (ok_cd_L_law_0 l D ad b0 Hb) (am_fa (ok_cd_L_law_1 l D ad b0 Hb) (am_fa (ok_cd_L_law_2 l D ad b0 Hb) (am_fa (ok_cd_L_law_3 l D ad b0 Hb) (am_fa (ok_cd_L_law_4 l D ad b0 Hb) (am_fa (ok_cd_L_law_5 l D ad b0 Hb) (am_fa (ok_cd_L_law_6 l D ad b0 Hb) (am_fa (ok_cd_L_law_7 l D ad b0 Hb) (am_fa (ok_cd_L_law_8 l D ad b0 Hb) (am_fa (ok_cd_L_law_9 l D ad b0 Hb) (am_fa (ok_cd_L_law_10 l D ad b0 Hb) (am_fa (ok_cd_L_law_11 l D ad b0 Hb) (am_fa (ok_cd_L_law_12 l D ad b0 Hb) (am_fa (ok_cd_L_law_13 l D ad b0 Hb) (am_fa (ok_cd_L_law_14 l D ad b0 Hb) (am_fa (ok_cd_L_law_15 l D ad b0 Hb) (am_fa (ok_cd_L_law_16 l D ad b0 Hb) (am_fa (ok_cd_L_law_17 l D ad b0 Hb) (am_fa (ok_cd_L_law_18 l D ad b0 Hb) (am_fa (ok_cd_L_law_19 l D ad b0 Hb) (am_fa (ok_cd_L_law_20 l D ad b0 Hb) (am_fa (ok_cd_L_law_21 l D ad b0 Hb) (am_fa (ok_cd_L_law_22 l D ad b0 Hb) (ok_cd_L_law_23 l D ad b0 Hb)))))))))))))))))))))))
set_option maxRecDepth 100000 in
theorem ok_cd_X0_init_0 (l : Launch) (D : va_G) (ad : Nat → Nat) (b0 : Nat) (Hb : Heap) : ∀ q ∈ cd_X0_init_0, am_ok l D ad b0 Hb am_If yX0_init cX0_init 1 (none) q.1 q.2 :=
  am_fc (ok_aload_n dX0_init_0 rfl rfl) <|
  am_fc (ok_obj dX0_init_1 w1_171 w1_27 w1_28 rfl) <|
  am_fc (ok_aload_n dX0_init_4 rfl rfl) <|
  am_fc (ok_bipush dX0_init_5 (by decide) rfl) <|
  am_fc (ok_newai rfl dX0_init_7 w1_56 rfl) <|
  am_fc (ok_putR cl_0 (by decide) rfl (Or.inr ⟨rfl, rfl, rfl⟩) dX0_init_9 w1_172 rfl) <|
  am_fc (ok_aload_n dX0_init_12 rfl rfl) <|
  am_fc (ok_bipush dX0_init_13 (by decide) rfl) <|
  am_fc (ok_newai rfl dX0_init_15 w1_56 rfl) <|
  am_fc (ok_putR cl_0 (by decide) rfl (Or.inr ⟨rfl, rfl, rfl⟩) dX0_init_17 w1_177 rfl) <|
  am_fc (ok_aload_n dX0_init_20 rfl rfl) <|
  am_fc (ok_bipush dX0_init_21 (by decide) rfl) <|
  am_fc (ok_newai rfl dX0_init_23 w1_56 rfl) <|
  am_fc (ok_putR cl_0 (by decide) rfl (Or.inr ⟨rfl, rfl, rfl⟩) dX0_init_25 w1_178 rfl) <|
  am_fc (ok_aload_n dX0_init_28 rfl rfl) <|
  am_fc (ok_bipush dX0_init_29 (by decide) rfl) <|
  am_fc (ok_newai rfl dX0_init_31 w1_56 rfl) <|
  am_fc (ok_putR cl_0 (by decide) rfl (Or.inr ⟨rfl, rfl, rfl⟩) dX0_init_33 w1_179 rfl) <|
  am_fc (ok_vret rfl dX0_init_36) <|
  am_fn
theorem ok_cd_X0_init (l : Launch) (D : va_G) (ad : Nat → Nat) (b0 : Nat) (Hb : Heap) : ∀ q ∈ cd_X0_init, am_ok l D ad b0 Hb am_If yX0_init cX0_init 1 (none) q.1 q.2 := ok_cd_X0_init_0 l D ad b0 Hb
set_option maxRecDepth 100000 in
theorem ok_cd_X0_comparison_0 (l : Launch) (D : va_G) (ad : Nat → Nat) (b0 : Nat) (Hb : Heap) : ∀ q ∈ cd_X0_comparison_0, am_ok l D ad b0 Hb am_If yX0_comparison cX0_comparison 3 (some .int) q.1 q.2 :=
  am_fc (ok_bipush dX0_comparison_0 (by decide) rfl) <|
  am_fc (ok_iload_n dX0_comparison_2 rfl rfl) <|
  am_fc (ok_imul dX0_comparison_3 rfl) <|
  am_fc (ok_bipush dX0_comparison_4 (by decide) rfl) <|
  am_fc (ok_iload_n dX0_comparison_6 rfl rfl) <|
  am_fc (ok_imul dX0_comparison_7 rfl) <|
  am_fc (ok_iadd dX0_comparison_8 rfl) <|
  am_fc (ok_iload_n dX0_comparison_9 rfl rfl) <|
  am_fc (ok_iadd dX0_comparison_10 rfl) <|
  am_fc (ok_iret rfl dX0_comparison_11) <|
  am_fn
theorem ok_cd_X0_comparison (l : Launch) (D : va_G) (ad : Nat → Nat) (b0 : Nat) (Hb : Heap) : ∀ q ∈ cd_X0_comparison, am_ok l D ad b0 Hb am_If yX0_comparison cX0_comparison 3 (some .int) q.1 q.2 := ok_cd_X0_comparison_0 l D ad b0 Hb
set_option maxRecDepth 100000 in
theorem ok_cd_X0_empty_0 (l : Launch) (D : va_G) (ad : Nat → Nat) (b0 : Nat) (Hb : Heap) : ∀ q ∈ cd_X0_empty_0, am_ok l D ad b0 Hb am_If yX0_empty cX0_empty 1 (none) q.1 q.2 :=
  am_fc (ok_aload_n dX0_empty_0 rfl rfl) <|
  am_fc (ok_iconst dX0_empty_1 (by decide) rfl) <|
  am_fc (ok_putI cl_0 (by decide) rfl (Or.inl rfl) dX0_empty_2 w1_174 rfl) <|
  am_fc (ok_aload_n dX0_empty_5 rfl rfl) <|
  am_fc (ok_iconst dX0_empty_6 (by decide) rfl) <|
  am_fc (ok_putI cl_0 (by decide) rfl (Or.inl rfl) dX0_empty_7 w1_180 rfl) <|
  am_fc (ok_vret rfl dX0_empty_10) <|
  am_fn
theorem ok_cd_X0_empty (l : Launch) (D : va_G) (ad : Nat → Nat) (b0 : Nat) (Hb : Heap) : ∀ q ∈ cd_X0_empty, am_ok l D ad b0 Hb am_If yX0_empty cX0_empty 1 (none) q.1 q.2 := ok_cd_X0_empty_0 l D ad b0 Hb
set_option maxRecDepth 100000 in
theorem ok_cd_X0_add_0 (l : Launch) (D : va_G) (ad : Nat → Nat) (b0 : Nat) (Hb : Heap) : ∀ q ∈ cd_X0_add_0, am_ok l D ad b0 Hb am_If yX0_add cX0_add 2 (none) q.1 q.2 :=
  am_fc (ok_aload_n dX0_add_0 rfl rfl) <|
  am_fc (ok_getI cl_0 (by decide) rfl dX0_add_1 w1_180 rfl) <|
  am_fc (ok_bipush dX0_add_4 (by decide) rfl) <|
  am_fc (ok_cge dX0_add_6 (by decide) rfl) <|
  am_fc (ok_aload_n dX0_add_9 rfl rfl) <|
  am_fc (ok_getR cl_0 (by decide) rfl dX0_add_10 w1_179 rfl) <|
  am_fc (ok_aload_n dX0_add_13 rfl rfl) <|
  am_fc (ok_getI cl_0 (by decide) rfl dX0_add_14 w1_180 rfl) <|
  am_fc (ok_iload_n dX0_add_17 rfl rfl) <|
  am_fc (ok_iast dX0_add_18 rfl) <|
  am_fc (ok_aload_n dX0_add_19 rfl rfl) <|
  am_fc (ok_dup dX0_add_20 rfl) <|
  am_fc (ok_getI cl_0 (by decide) rfl dX0_add_21 w1_180 rfl) <|
  am_fc (ok_iconst dX0_add_24 (by decide) rfl) <|
  am_fc (ok_iadd dX0_add_25 rfl) <|
  am_fc (ok_putI cl_0 (by decide) rfl (Or.inl rfl) dX0_add_26 w1_180 rfl) <|
  am_fc (ok_vret rfl dX0_add_29) <|
  am_fn
theorem ok_cd_X0_add (l : Launch) (D : va_G) (ad : Nat → Nat) (b0 : Nat) (Hb : Heap) : ∀ q ∈ cd_X0_add, am_ok l D ad b0 Hb am_If yX0_add cX0_add 2 (none) q.1 q.2 := ok_cd_X0_add_0 l D ad b0 Hb
set_option maxRecDepth 100000 in
theorem ok_cd_X0_endClause_0 (l : Launch) (D : va_G) (ad : Nat → Nat) (b0 : Nat) (Hb : Heap) : ∀ q ∈ cd_X0_endClause_0, am_ok l D ad b0 Hb am_If yX0_endClause cX0_endClause 3 (none) q.1 q.2 :=
  am_fc (ok_aload_n dX0_endClause_0 rfl rfl) <|
  am_fc (ok_getI cl_0 (by decide) rfl dX0_endClause_1 w1_174 rfl) <|
  am_fc (ok_bipush dX0_endClause_4 (by decide) rfl) <|
  am_fc (ok_cge dX0_endClause_6 (by decide) rfl) <|
  am_fc (ok_aload_n dX0_endClause_9 rfl rfl) <|
  am_fc (ok_getR cl_0 (by decide) rfl dX0_endClause_10 w1_172 rfl) <|
  am_fc (ok_aload_n dX0_endClause_13 rfl rfl) <|
  am_fc (ok_getI cl_0 (by decide) rfl dX0_endClause_14 w1_174 rfl) <|
  am_fc (ok_iload_n dX0_endClause_17 rfl rfl) <|
  am_fc (ok_iast dX0_endClause_18 rfl) <|
  am_fc (ok_aload_n dX0_endClause_19 rfl rfl) <|
  am_fc (ok_getR cl_0 (by decide) rfl dX0_endClause_20 w1_177 rfl) <|
  am_fc (ok_aload_n dX0_endClause_23 rfl rfl) <|
  am_fc (ok_getI cl_0 (by decide) rfl dX0_endClause_24 w1_174 rfl) <|
  am_fc (ok_iload_n dX0_endClause_27 rfl rfl) <|
  am_fc (ok_iast dX0_endClause_28 rfl) <|
  am_fc (ok_aload_n dX0_endClause_29 rfl rfl) <|
  am_fc (ok_getR cl_0 (by decide) rfl dX0_endClause_30 w1_178 rfl) <|
  am_fc (ok_aload_n dX0_endClause_33 rfl rfl) <|
  am_fc (ok_getI cl_0 (by decide) rfl dX0_endClause_34 w1_174 rfl) <|
  am_fc (ok_aload_n dX0_endClause_37 rfl rfl) <|
  am_fc (ok_getI cl_0 (by decide) rfl dX0_endClause_38 w1_180 rfl) <|
  am_fc (ok_iast dX0_endClause_41 rfl) <|
  am_fc (ok_aload_n dX0_endClause_42 rfl rfl) <|
  am_fc (ok_dup dX0_endClause_43 rfl) <|
  am_fc (ok_getI cl_0 (by decide) rfl dX0_endClause_44 w1_174 rfl) <|
  am_fc (ok_iconst dX0_endClause_47 (by decide) rfl) <|
  am_fc (ok_iadd dX0_endClause_48 rfl) <|
  am_fc (ok_putI cl_0 (by decide) rfl (Or.inl rfl) dX0_endClause_49 w1_174 rfl) <|
  am_fc (ok_vret rfl dX0_endClause_52) <|
  am_fn
theorem ok_cd_X0_endClause (l : Launch) (D : va_G) (ad : Nat → Nat) (b0 : Nat) (Hb : Heap) : ∀ q ∈ cd_X0_endClause, am_ok l D ad b0 Hb am_If yX0_endClause cX0_endClause 3 (none) q.1 q.2 := ok_cd_X0_endClause_0 l D ad b0 Hb
set_option maxRecDepth 100000 in
theorem ok_cd_X0_lastThatHolds_0 (l : Launch) (D : va_G) (ad : Nat → Nat) (b0 : Nat) (Hb : Heap) : ∀ q ∈ cd_X0_lastThatHolds_0, am_ok l D ad b0 Hb am_If yX0_lastThatHolds cX0_lastThatHolds 4 (some .int) q.1 q.2 :=
  am_fc (ok_aload_n dX0_lastThatHolds_0 rfl rfl) <|
  am_fc (ok_getI cl_0 (by decide) rfl dX0_lastThatHolds_1 w1_174 rfl) <|
  am_fc (ok_iconst dX0_lastThatHolds_4 (by decide) rfl) <|
  am_fc (ok_isub dX0_lastThatHolds_5 rfl) <|
  am_fc (ok_istore_n dX0_lastThatHolds_6 rfl rfl) <|
  am_fc (ok_iload_n dX0_lastThatHolds_7 rfl rfl) <|
  am_fc (ok_iflt dX0_lastThatHolds_8 (by decide) rfl) <|
  am_fc (ok_aload_n dX0_lastThatHolds_11 rfl rfl) <|
  am_fc (ok_getR cl_0 (by decide) rfl dX0_lastThatHolds_12 w1_177 rfl) <|
  am_fc (ok_iload_n dX0_lastThatHolds_15 rfl rfl) <|
  am_fc (ok_iald dX0_lastThatHolds_16 rfl) <|
  am_fc (ok_iload_n dX0_lastThatHolds_17 rfl rfl) <|
  am_fc (ok_cgt dX0_lastThatHolds_18 (by decide) rfl) <|
  am_fc (ok_aload_n dX0_lastThatHolds_21 rfl rfl) <|
  am_fc (ok_iload_n dX0_lastThatHolds_22 rfl rfl) <|
  am_fc (ok_iload_n dX0_lastThatHolds_23 rfl rfl) <|
  am_fc (ok_invV (i := ii_X0_holds) rfl (Or.inr ⟨_, rfl, by decide, rfl⟩) mm_X0_holds dX0_lastThatHolds_24 w3_190 rfl) <|
  am_fc (ok_ifeq dX0_lastThatHolds_27 (by decide) rfl) <|
  am_fc (ok_iload_n dX0_lastThatHolds_30 rfl rfl) <|
  am_fc (ok_iret rfl dX0_lastThatHolds_31) <|
  am_fc (ok_iinc dX0_lastThatHolds_32 (by decide) rfl) <|
  am_fc (ok_goto dX0_lastThatHolds_35 (by decide)) <|
  am_fc (ok_bipush dX0_lastThatHolds_38 (by decide) rfl) <|
  am_fc (ok_iret rfl dX0_lastThatHolds_40) <|
  am_fn
theorem ok_cd_X0_lastThatHolds (l : Launch) (D : va_G) (ad : Nat → Nat) (b0 : Nat) (Hb : Heap) : ∀ q ∈ cd_X0_lastThatHolds, am_ok l D ad b0 Hb am_If yX0_lastThatHolds cX0_lastThatHolds 4 (some .int) q.1 q.2 := ok_cd_X0_lastThatHolds_0 l D ad b0 Hb
set_option maxRecDepth 100000 in
theorem ok_cd_X0_holds_0 (l : Launch) (D : va_G) (ad : Nat → Nat) (b0 : Nat) (Hb : Heap) : ∀ q ∈ cd_X0_holds_0, am_ok l D ad b0 Hb am_If yX0_holds cX0_holds 7 (some .boolean) q.1 q.2 :=
  am_fc (ok_iconst dX0_holds_0 (by decide) rfl) <|
  am_fc (ok_istore_n dX0_holds_1 rfl rfl) <|
  am_fc (ok_iload_n dX0_holds_2 rfl rfl) <|
  am_fc (ok_ifne dX0_holds_3 (by decide) rfl) <|
  am_fc (ok_iconst dX0_holds_6 (by decide) rfl) <|
  am_fc (ok_goto dX0_holds_7 (by decide)) <|
  am_fc (ok_aload_n dX0_holds_10 rfl rfl) <|
  am_fc (ok_getR cl_0 (by decide) rfl dX0_holds_11 w1_178 rfl) <|
  am_fc (ok_iload_n dX0_holds_14 rfl rfl) <|
  am_fc (ok_iconst dX0_holds_15 (by decide) rfl) <|
  am_fc (ok_isub dX0_holds_16 rfl) <|
  am_fc (ok_iald dX0_holds_17 rfl) <|
  am_fc (ok_istore dX0_holds_18 rfl) <|
  am_fc (ok_iload dX0_holds_20 rfl) <|
  am_fc (ok_aload_n dX0_holds_22 rfl rfl) <|
  am_fc (ok_getR cl_0 (by decide) rfl dX0_holds_23 w1_178 rfl) <|
  am_fc (ok_iload_n dX0_holds_26 rfl rfl) <|
  am_fc (ok_iald dX0_holds_27 rfl) <|
  am_fc (ok_cge dX0_holds_28 (by decide) rfl) <|
  am_fc (ok_aload_n dX0_holds_31 rfl rfl) <|
  am_fc (ok_getR cl_0 (by decide) rfl dX0_holds_32 w1_179 rfl) <|
  am_fc (ok_iload dX0_holds_35 rfl) <|
  am_fc (ok_iald dX0_holds_37 rfl) <|
  am_fc (ok_istore dX0_holds_38 rfl) <|
  am_fc (ok_iload_n dX0_holds_40 rfl rfl) <|
  am_fc (ok_iconst dX0_holds_41 (by decide) rfl) <|
  am_fc (ok_iand dX0_holds_42 rfl) <|
  am_fc (ok_istore dX0_holds_43 rfl) <|
  am_fc (ok_iload dX0_holds_45 rfl) <|
  am_fc (ok_bipush dX0_holds_47 (by decide) rfl) <|
  am_fc (ok_cne dX0_holds_49 (by decide) rfl) <|
  am_fc (ok_iload_n dX0_holds_52 rfl rfl) <|
  am_fc (ok_iconst dX0_holds_53 (by decide) rfl) <|
  am_fc (ok_ixor dX0_holds_54 rfl) <|
  am_fc (ok_istore_n dX0_holds_55 rfl rfl) <|
  am_fc (ok_goto dX0_holds_56 (by decide)) <|
  am_fc (ok_iload dX0_holds_59 rfl) <|
  am_fc (ok_iconst dX0_holds_61 (by decide) rfl) <|
  am_fc (ok_cne dX0_holds_62 (by decide) rfl) <|
  am_fc (ok_iload_n dX0_holds_65 rfl rfl) <|
  am_fc (ok_iconst dX0_holds_66 (by decide) rfl) <|
  am_fc (ok_ishr dX0_holds_67 rfl) <|
  am_fc (ok_iload dX0_holds_68 rfl) <|
  am_fc (ok_bipush dX0_holds_70 (by decide) rfl) <|
  am_fc (ok_ior dX0_holds_72 rfl) <|
  am_fc (ok_iand dX0_holds_73 rfl) <|
  am_fc (ok_istore_n dX0_holds_74 rfl rfl) <|
  am_fc (ok_goto dX0_holds_75 (by decide)) <|
  am_fc (ok_iload dX0_holds_78 rfl) <|
  am_fc (ok_bipush dX0_holds_80 (by decide) rfl) <|
  am_fn
set_option maxRecDepth 100000 in
theorem ok_cd_X0_holds_1 (l : Launch) (D : va_G) (ad : Nat → Nat) (b0 : Nat) (Hb : Heap) : ∀ q ∈ cd_X0_holds_1, am_ok l D ad b0 Hb am_If yX0_holds cX0_holds 7 (some .boolean) q.1 q.2 :=
  am_fc (ok_cne dX0_holds_82 (by decide) rfl) <|
  am_fc (ok_iload_n dX0_holds_85 rfl rfl) <|
  am_fc (ok_iconst dX0_holds_86 (by decide) rfl) <|
  am_fc (ok_ishr dX0_holds_87 rfl) <|
  am_fc (ok_iload dX0_holds_88 rfl) <|
  am_fc (ok_ior dX0_holds_90 rfl) <|
  am_fc (ok_istore_n dX0_holds_91 rfl rfl) <|
  am_fc (ok_goto dX0_holds_92 (by decide)) <|
  am_fc (ok_iload_n dX0_holds_95 rfl rfl) <|
  am_fc (ok_iconst dX0_holds_96 (by decide) rfl) <|
  am_fc (ok_ishl dX0_holds_97 rfl) <|
  am_fc (ok_iload dX0_holds_98 rfl) <|
  am_fc (ok_iload_n dX0_holds_100 rfl rfl) <|
  am_fc (ok_invS (i := ii_X0_compares) rfl mm_X0_compares dX0_holds_101 w3_194 rfl) <|
  am_fc (ok_ifeq dX0_holds_104 (by decide) rfl) <|
  am_fc (ok_iconst dX0_holds_107 (by decide) rfl) <|
  am_fc (ok_goto dX0_holds_108 (by decide)) <|
  am_fc (ok_iconst dX0_holds_111 (by decide) rfl) <|
  am_fc (ok_ior dX0_holds_112 rfl) <|
  am_fc (ok_istore_n dX0_holds_113 rfl rfl) <|
  am_fc (ok_iinc dX0_holds_114 (by decide) rfl) <|
  am_fc (ok_goto dX0_holds_117 (by decide)) <|
  am_fc (ok_iload_n dX0_holds_120 rfl rfl) <|
  am_fc (ok_iconst dX0_holds_121 (by decide) rfl) <|
  am_fc (ok_iand dX0_holds_122 rfl) <|
  am_fc (ok_iconst dX0_holds_123 (by decide) rfl) <|
  am_fc (ok_cne dX0_holds_124 (by decide) rfl) <|
  am_fc (ok_iconst dX0_holds_127 (by decide) rfl) <|
  am_fc (ok_goto dX0_holds_128 (by decide)) <|
  am_fc (ok_iconst dX0_holds_131 (by decide) rfl) <|
  am_fc (ok_zret rfl dX0_holds_132) <|
  am_fn
theorem ok_cd_X0_holds (l : Launch) (D : va_G) (ad : Nat → Nat) (b0 : Nat) (Hb : Heap) : ∀ q ∈ cd_X0_holds, am_ok l D ad b0 Hb am_If yX0_holds cX0_holds 7 (some .boolean) q.1 q.2 := am_fa (ok_cd_X0_holds_0 l D ad b0 Hb) (ok_cd_X0_holds_1 l D ad b0 Hb)
set_option maxRecDepth 100000 in
theorem ok_cd_X0_compares_0 (l : Launch) (D : va_G) (ad : Nat → Nat) (b0 : Nat) (Hb : Heap) : ∀ q ∈ cd_X0_compares_0, am_ok l D ad b0 Hb am_If yX0_compares cX0_compares 5 (some .boolean) q.1 q.2 :=
  am_fc (ok_iload_n dX0_compares_0 rfl rfl) <|
  am_fc (ok_iload_n dX0_compares_1 rfl rfl) <|
  am_fc (ok_bipush dX0_compares_2 (by decide) rfl) <|
  am_fc (ok_idiv dX0_compares_4 rfl) <|
  am_fc (ok_invS (i := ii_X2_at) rfl mm_X2_at dX0_compares_5 w3_197 rfl) <|
  am_fc (ok_istore_n dX0_compares_8 rfl rfl) <|
  am_fc (ok_iload_n dX0_compares_9 rfl rfl) <|
  am_fc (ok_bipush dX0_compares_10 (by decide) rfl) <|
  am_fc (ok_idiv dX0_compares_12 rfl) <|
  am_fc (ok_bipush dX0_compares_13 (by decide) rfl) <|
  am_fc (ok_irem dX0_compares_15 rfl) <|
  am_fc (ok_istore_n dX0_compares_16 rfl rfl) <|
  am_fc (ok_iload_n dX0_compares_17 rfl rfl) <|
  am_fc (ok_bipush dX0_compares_18 (by decide) rfl) <|
  am_fc (ok_irem dX0_compares_20 rfl) <|
  am_fc (ok_istore dX0_compares_21 rfl) <|
  am_fc (ok_iload_n dX0_compares_23 rfl rfl) <|
  am_fc (ok_ifne dX0_compares_24 (by decide) rfl) <|
  am_fc (ok_iload_n dX0_compares_27 rfl rfl) <|
  am_fc (ok_iload dX0_compares_28 rfl) <|
  am_fc (ok_cne dX0_compares_30 (by decide) rfl) <|
  am_fc (ok_iconst dX0_compares_33 (by decide) rfl) <|
  am_fc (ok_goto dX0_compares_34 (by decide)) <|
  am_fc (ok_iconst dX0_compares_37 (by decide) rfl) <|
  am_fc (ok_zret rfl dX0_compares_38) <|
  am_fc (ok_iload_n dX0_compares_39 rfl rfl) <|
  am_fc (ok_iconst dX0_compares_40 (by decide) rfl) <|
  am_fc (ok_cne dX0_compares_41 (by decide) rfl) <|
  am_fc (ok_iload_n dX0_compares_44 rfl rfl) <|
  am_fc (ok_iload dX0_compares_45 rfl) <|
  am_fc (ok_cge dX0_compares_47 (by decide) rfl) <|
  am_fc (ok_iconst dX0_compares_50 (by decide) rfl) <|
  am_fc (ok_goto dX0_compares_51 (by decide)) <|
  am_fc (ok_iconst dX0_compares_54 (by decide) rfl) <|
  am_fc (ok_goto dX0_compares_55 (by decide)) <|
  am_fc (ok_iload_n dX0_compares_58 rfl rfl) <|
  am_fc (ok_iload dX0_compares_59 rfl) <|
  am_fc (ok_cle dX0_compares_61 (by decide) rfl) <|
  am_fc (ok_iconst dX0_compares_64 (by decide) rfl) <|
  am_fc (ok_goto dX0_compares_65 (by decide)) <|
  am_fc (ok_iconst dX0_compares_68 (by decide) rfl) <|
  am_fc (ok_zret rfl dX0_compares_69) <|
  am_fn
theorem ok_cd_X0_compares (l : Launch) (D : va_G) (ad : Nat → Nat) (b0 : Nat) (Hb : Heap) : ∀ q ∈ cd_X0_compares, am_ok l D ad b0 Hb am_If yX0_compares cX0_compares 5 (some .boolean) q.1 q.2 := ok_cd_X0_compares_0 l D ad b0 Hb
set_option maxRecDepth 100000 in
theorem ok_cd_X1_init_0 (l : Launch) (D : va_G) (ad : Nat → Nat) (b0 : Nat) (Hb : Heap) : ∀ q ∈ cd_X1_init_0, am_ok l D ad b0 Hb am_If yX1_init cX1_init 1 (none) q.1 q.2 :=
  am_fc (ok_aload_n dX1_init_0 rfl rfl) <|
  am_fc (ok_obj dX1_init_1 w1_114 w1_27 w1_28 rfl) <|
  am_fc (ok_aload_n dX1_init_4 rfl rfl) <|
  am_fc (ok_bipush dX1_init_5 (by decide) rfl) <|
  am_fc (ok_newai rfl dX1_init_7 w1_56 rfl) <|
  am_fc (ok_putR cl_1 (by decide) rfl (Or.inr ⟨rfl, rfl, rfl⟩) dX1_init_9 w1_115 rfl) <|
  am_fc (ok_aload_n dX1_init_12 rfl rfl) <|
  am_fc (ok_bipush dX1_init_13 (by decide) rfl) <|
  am_fc (ok_newai rfl dX1_init_15 w1_56 rfl) <|
  am_fc (ok_putR cl_1 (by decide) rfl (Or.inr ⟨rfl, rfl, rfl⟩) dX1_init_17 w1_117 rfl) <|
  am_fc (ok_aload_n dX1_init_20 rfl rfl) <|
  am_fc (ok_bipush dX1_init_21 (by decide) rfl) <|
  am_fc (ok_newaz rfl dX1_init_23 w1_131 rfl) <|
  am_fc (ok_putR cl_1 (by decide) rfl (Or.inr ⟨rfl, rfl, rfl⟩) dX1_init_25 w1_121 rfl) <|
  am_fc (ok_vret rfl dX1_init_28) <|
  am_fn
theorem ok_cd_X1_init (l : Launch) (D : va_G) (ad : Nat → Nat) (b0 : Nat) (Hb : Heap) : ∀ q ∈ cd_X1_init, am_ok l D ad b0 Hb am_If yX1_init cX1_init 1 (none) q.1 q.2 := ok_cd_X1_init_0 l D ad b0 Hb
set_option maxRecDepth 100000 in
theorem ok_cd_X1_look_0 (l : Launch) (D : va_G) (ad : Nat → Nat) (b0 : Nat) (Hb : Heap) : ∀ q ∈ cd_X1_look_0, am_ok l D ad b0 Hb am_If yX1_look cX1_look 4 (none) q.1 q.2 :=
  am_fc (ok_aload_n dX1_look_0 rfl rfl) <|
  am_fc (ok_iconst dX1_look_1 (by decide) rfl) <|
  am_fc (ok_putI cl_1 (by decide) rfl (Or.inl rfl) dX1_look_2 w1_119 rfl) <|
  am_fc (ok_iconst dX1_look_5 (by decide) rfl) <|
  am_fc (ok_istore_n dX1_look_6 rfl rfl) <|
  am_fc (ok_iload_n dX1_look_7 rfl rfl) <|
  am_fc (ok_iload_n dX1_look_8 rfl rfl) <|
  am_fc (ok_cge dX1_look_9 (by decide) rfl) <|
  am_fc (ok_aload_n dX1_look_12 rfl rfl) <|
  am_fc (ok_getR cl_6 (by decide) rfl dX1_look_13 w1_66 rfl) <|
  am_fc (ok_iload_n dX1_look_16 rfl rfl) <|
  am_fc (ok_iald dX1_look_17 rfl) <|
  am_fc (ok_ifeq dX1_look_18 (by decide) rfl) <|
  am_fc (ok_aload_n dX1_look_21 rfl rfl) <|
  am_fc (ok_aload_n dX1_look_22 rfl rfl) <|
  am_fc (ok_getR cl_6 (by decide) rfl dX1_look_23 w1_72 rfl) <|
  am_fc (ok_iload_n dX1_look_26 rfl rfl) <|
  am_fc (ok_iald dX1_look_27 rfl) <|
  am_fc (ok_invV (i := ii_X1_sortIn) rfl (Or.inr ⟨_, rfl, by decide, rfl⟩) mm_X1_sortIn dX1_look_28 w3_206 rfl) <|
  am_fc (ok_iinc dX1_look_31 (by decide) rfl) <|
  am_fc (ok_goto dX1_look_34 (by decide)) <|
  am_fc (ok_aload_n dX1_look_37 rfl rfl) <|
  am_fc (ok_aload_n dX1_look_38 rfl rfl) <|
  am_fc (ok_getI cl_1 (by decide) rfl dX1_look_39 w1_119 rfl) <|
  am_fc (ok_bipush dX1_look_42 (by decide) rfl) <|
  am_fc (ok_mmin dX1_look_44 w3_210 w3_108 w1_14 w3_109 rfl) <|
  am_fc (ok_putI cl_1 (by decide) rfl (Or.inl rfl) dX1_look_47 w1_119 rfl) <|
  am_fc (ok_vret rfl dX1_look_50) <|
  am_fn
theorem ok_cd_X1_look (l : Launch) (D : va_G) (ad : Nat → Nat) (b0 : Nat) (Hb : Heap) : ∀ q ∈ cd_X1_look, am_ok l D ad b0 Hb am_If yX1_look cX1_look 4 (none) q.1 q.2 := ok_cd_X1_look_0 l D ad b0 Hb
set_option maxRecDepth 100000 in
theorem ok_cd_X1_sortIn_0 (l : Launch) (D : va_G) (ad : Nat → Nat) (b0 : Nat) (Hb : Heap) : ∀ q ∈ cd_X1_sortIn_0, am_ok l D ad b0 Hb am_If yX1_sortIn cX1_sortIn 4 (none) q.1 q.2 :=
  am_fc (ok_iconst dX1_sortIn_0 (by decide) rfl) <|
  am_fc (ok_istore_n dX1_sortIn_1 rfl rfl) <|
  am_fc (ok_iload_n dX1_sortIn_2 rfl rfl) <|
  am_fc (ok_aload_n dX1_sortIn_3 rfl rfl) <|
  am_fc (ok_getI cl_1 (by decide) rfl dX1_sortIn_4 w1_119 rfl) <|
  am_fc (ok_cge dX1_sortIn_7 (by decide) rfl) <|
  am_fc (ok_aload_n dX1_sortIn_10 rfl rfl) <|
  am_fc (ok_getR cl_1 (by decide) rfl dX1_sortIn_11 w1_115 rfl) <|
  am_fc (ok_iload_n dX1_sortIn_14 rfl rfl) <|
  am_fc (ok_iald dX1_sortIn_15 rfl) <|
  am_fc (ok_iload_n dX1_sortIn_16 rfl rfl) <|
  am_fc (ok_cge dX1_sortIn_17 (by decide) rfl) <|
  am_fc (ok_iinc dX1_sortIn_20 (by decide) rfl) <|
  am_fc (ok_goto dX1_sortIn_23 (by decide)) <|
  am_fc (ok_iload_n dX1_sortIn_26 rfl rfl) <|
  am_fc (ok_aload_n dX1_sortIn_27 rfl rfl) <|
  am_fc (ok_getI cl_1 (by decide) rfl dX1_sortIn_28 w1_119 rfl) <|
  am_fc (ok_cge dX1_sortIn_31 (by decide) rfl) <|
  am_fc (ok_aload_n dX1_sortIn_34 rfl rfl) <|
  am_fc (ok_getR cl_1 (by decide) rfl dX1_sortIn_35 w1_115 rfl) <|
  am_fc (ok_iload_n dX1_sortIn_38 rfl rfl) <|
  am_fc (ok_iald dX1_sortIn_39 rfl) <|
  am_fc (ok_iload_n dX1_sortIn_40 rfl rfl) <|
  am_fc (ok_ceq dX1_sortIn_41 (by decide) rfl) <|
  am_fc (ok_aload_n dX1_sortIn_44 rfl rfl) <|
  am_fc (ok_getI cl_1 (by decide) rfl dX1_sortIn_45 w1_119 rfl) <|
  am_fc (ok_bipush dX1_sortIn_48 (by decide) rfl) <|
  am_fc (ok_clt dX1_sortIn_50 (by decide) rfl) <|
  am_fc (ok_vret rfl dX1_sortIn_53) <|
  am_fc (ok_aload_n dX1_sortIn_54 rfl rfl) <|
  am_fc (ok_getI cl_1 (by decide) rfl dX1_sortIn_55 w1_119 rfl) <|
  am_fc (ok_istore_n dX1_sortIn_58 rfl rfl) <|
  am_fc (ok_iload_n dX1_sortIn_59 rfl rfl) <|
  am_fc (ok_iload_n dX1_sortIn_60 rfl rfl) <|
  am_fc (ok_cle dX1_sortIn_61 (by decide) rfl) <|
  am_fc (ok_aload_n dX1_sortIn_64 rfl rfl) <|
  am_fc (ok_getR cl_1 (by decide) rfl dX1_sortIn_65 w1_115 rfl) <|
  am_fc (ok_iload_n dX1_sortIn_68 rfl rfl) <|
  am_fc (ok_aload_n dX1_sortIn_69 rfl rfl) <|
  am_fc (ok_getR cl_1 (by decide) rfl dX1_sortIn_70 w1_115 rfl) <|
  am_fc (ok_iload_n dX1_sortIn_73 rfl rfl) <|
  am_fc (ok_iconst dX1_sortIn_74 (by decide) rfl) <|
  am_fc (ok_isub dX1_sortIn_75 rfl) <|
  am_fc (ok_iald dX1_sortIn_76 rfl) <|
  am_fc (ok_iast dX1_sortIn_77 rfl) <|
  am_fc (ok_iinc dX1_sortIn_78 (by decide) rfl) <|
  am_fc (ok_goto dX1_sortIn_81 (by decide)) <|
  am_fc (ok_aload_n dX1_sortIn_84 rfl rfl) <|
  am_fc (ok_getR cl_1 (by decide) rfl dX1_sortIn_85 w1_115 rfl) <|
  am_fc (ok_iload_n dX1_sortIn_88 rfl rfl) <|
  am_fn
set_option maxRecDepth 100000 in
theorem ok_cd_X1_sortIn_1 (l : Launch) (D : va_G) (ad : Nat → Nat) (b0 : Nat) (Hb : Heap) : ∀ q ∈ cd_X1_sortIn_1, am_ok l D ad b0 Hb am_If yX1_sortIn cX1_sortIn 4 (none) q.1 q.2 :=
  am_fc (ok_iload_n dX1_sortIn_89 rfl rfl) <|
  am_fc (ok_iast dX1_sortIn_90 rfl) <|
  am_fc (ok_aload_n dX1_sortIn_91 rfl rfl) <|
  am_fc (ok_dup dX1_sortIn_92 rfl) <|
  am_fc (ok_getI cl_1 (by decide) rfl dX1_sortIn_93 w1_119 rfl) <|
  am_fc (ok_iconst dX1_sortIn_96 (by decide) rfl) <|
  am_fc (ok_iadd dX1_sortIn_97 rfl) <|
  am_fc (ok_putI cl_1 (by decide) rfl (Or.inl rfl) dX1_sortIn_98 w1_119 rfl) <|
  am_fc (ok_vret rfl dX1_sortIn_101) <|
  am_fn
theorem ok_cd_X1_sortIn (l : Launch) (D : va_G) (ad : Nat → Nat) (b0 : Nat) (Hb : Heap) : ∀ q ∈ cd_X1_sortIn, am_ok l D ad b0 Hb am_If yX1_sortIn cX1_sortIn 4 (none) q.1 q.2 := am_fa (ok_cd_X1_sortIn_0 l D ad b0 Hb) (ok_cd_X1_sortIn_1 l D ad b0 Hb)
set_option maxRecDepth 100000 in
theorem ok_cd_X1_join_0 (l : Launch) (D : va_G) (ad : Nat → Nat) (b0 : Nat) (Hb : Heap) : ∀ q ∈ cd_X1_join_0, am_ok l D ad b0 Hb am_If yX1_join cX1_join 3 (some .int) q.1 q.2 :=
  am_fc (ok_iconst dX1_join_0 (by decide) rfl) <|
  am_fc (ok_istore_n dX1_join_1 rfl rfl) <|
  am_fc (ok_iload_n dX1_join_2 rfl rfl) <|
  am_fc (ok_bipush dX1_join_3 (by decide) rfl) <|
  am_fc (ok_cge dX1_join_5 (by decide) rfl) <|
  am_fc (ok_aload_n dX1_join_8 rfl rfl) <|
  am_fc (ok_getR cl_1 (by decide) rfl dX1_join_9 w1_121 rfl) <|
  am_fc (ok_iload_n dX1_join_12 rfl rfl) <|
  am_fc (ok_iload_n dX1_join_13 rfl rfl) <|
  am_fc (ok_ifne dX1_join_14 (by decide) rfl) <|
  am_fc (ok_iconst dX1_join_17 (by decide) rfl) <|
  am_fc (ok_goto dX1_join_18 (by decide)) <|
  am_fc (ok_iconst dX1_join_21 (by decide) rfl) <|
  am_fc (ok_zast dX1_join_22 rfl) <|
  am_fc (ok_aload_n dX1_join_23 rfl rfl) <|
  am_fc (ok_getR cl_1 (by decide) rfl dX1_join_24 w1_117 rfl) <|
  am_fc (ok_iload_n dX1_join_27 rfl rfl) <|
  am_fc (ok_bipush dX1_join_28 (by decide) rfl) <|
  am_fc (ok_iast dX1_join_30 rfl) <|
  am_fc (ok_iinc dX1_join_31 (by decide) rfl) <|
  am_fc (ok_goto dX1_join_34 (by decide)) <|
  am_fc (ok_iconst dX1_join_37 (by decide) rfl) <|
  am_fc (ok_istore_n dX1_join_38 rfl rfl) <|
  am_fc (ok_iconst dX1_join_39 (by decide) rfl) <|
  am_fc (ok_istore_n dX1_join_40 rfl rfl) <|
  am_fc (ok_iload_n dX1_join_41 rfl rfl) <|
  am_fc (ok_aload_n dX1_join_42 rfl rfl) <|
  am_fc (ok_getI cl_1 (by decide) rfl dX1_join_43 w1_119 rfl) <|
  am_fc (ok_cge dX1_join_46 (by decide) rfl) <|
  am_fc (ok_iload_n dX1_join_49 rfl rfl) <|
  am_fc (ok_aload_n dX1_join_50 rfl rfl) <|
  am_fc (ok_invV (i := ii_X1_joinNearest) rfl (Or.inr ⟨_, rfl, by decide, rfl⟩) mm_X1_joinNearest dX1_join_51 w3_219 rfl) <|
  am_fc (ok_iadd dX1_join_54 rfl) <|
  am_fc (ok_istore_n dX1_join_55 rfl rfl) <|
  am_fc (ok_iinc dX1_join_56 (by decide) rfl) <|
  am_fc (ok_goto dX1_join_59 (by decide)) <|
  am_fc (ok_iload_n dX1_join_62 rfl rfl) <|
  am_fc (ok_iret rfl dX1_join_63) <|
  am_fn
theorem ok_cd_X1_join (l : Launch) (D : va_G) (ad : Nat → Nat) (b0 : Nat) (Hb : Heap) : ∀ q ∈ cd_X1_join, am_ok l D ad b0 Hb am_If yX1_join cX1_join 3 (some .int) q.1 q.2 := ok_cd_X1_join_0 l D ad b0 Hb
