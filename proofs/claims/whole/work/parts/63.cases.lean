/-! THE LAW: its cases -/
section LW
variable {E : gw_E} {p : Program} {l : Launch} {e : Env} {s : State} {m : MethodId} {below : List Frame} {meth : Method} {c : Code} {b L : Nat} {xs : Nat → Int32} {i : Nat} {I : Nat → Nat → Int} {F : Nat → Nat → Option Nat}
theorem lw_c0 (hY : lw_Y E p s m meth c b L xs) (hi : i + 5 ≤ L) (hI : gl_I I F) (kk : ∀ I' F', gl_I I' F' → lw_g E p l e s m below meth c b 817 i [] (114, I', F')) : lw_g E p l e s m below meth c b 156 i [] (114, I, F) := by
  obtain ⟨Q, hM, hQ⟩ := st_type (gw_inI (xs (i + 1))) I F hI
  refine lw_al1 hY dL_law_156 ?_
  refine lw_rd 1 hY dL_law_157 dL_law_158 dL_law_159 dL_law_160 dL_law_161 rfl (by omega) ?_
  refine lw_call hY dL_law_162 kL_13 rfl (as := [_]) rfl rfl rfl (Nat.le_of_ble_eq_true rfl) (Nat.le_of_ble_eq_true rfl) hM ?_
  intro v μ' hv
  obtain ⟨r, I1, F1, rfl, rfl, Qm, hM2, hQ2⟩ := hQ v μ' hv
  refine lw_al2 hY dL_law_165 ?_
  refine lw_rd 1 hY dL_law_166 dL_law_167 dL_law_168 dL_law_169 dL_law_170 rfl (by omega) ?_
  refine lw_call hY dL_law_171 kL_17 rfl (as := [_]) rfl rfl rfl (Nat.le_of_ble_eq_true rfl) (Nat.le_of_ble_eq_true rfl) hM2 ?_
  intro v2 μ2 hv2
  obtain ⟨rfl, I2, rfl, hI2⟩ := hQ2 v2 μ2 hv2
  refine lw_eq 817 hY dL_law_174 (by decide) ?_
  exact kk I2 F1 hI2
theorem lw_c1 (hY : lw_Y E p s m meth c b L xs) (hi : i + 5 ≤ L) (hI : gl_I I F) (kk : ∀ I' F', gl_I I' F' → lw_g E p l e s m below meth c b 817 i [] (114, I', F')) : lw_g E p l e s m below meth c b 179 i [] (114, I, F) := by
  obtain ⟨Q, hM, hQ⟩ := st_clear I F hI
  refine lw_al1 hY dL_law_179 ?_
  refine lw_call hY dL_law_180 kL_18 rfl (as := []) rfl rfl rfl (Nat.le_of_ble_eq_true rfl) (Nat.le_of_ble_eq_true rfl) hM ?_
  intro v μ' hv
  obtain ⟨r, I1, F1, rfl, rfl, Qm, hM2, hQ2⟩ := hQ v μ' hv
  refine lw_al2 hY dL_law_183 ?_
  refine lw_call hY dL_law_184 kL_22 rfl (as := []) rfl rfl rfl (Nat.le_of_ble_eq_true rfl) (Nat.le_of_ble_eq_true rfl) hM2 ?_
  intro v2 μ2 hv2
  obtain ⟨rfl, I2, rfl, hI2⟩ := hQ2 v2 μ2 hv2
  refine lw_eq 817 hY dL_law_187 (by decide) ?_
  exact kk I2 F1 hI2
theorem lw_c2 (hY : lw_Y E p s m meth c b L xs) (hi : i + 5 ≤ L) (hI : gl_I I F) (kk : ∀ I' F', gl_I I' F' → lw_g E p l e s m below meth c b 817 i [] (114, I', F')) : lw_g E p l e s m below meth c b 192 i [] (114, I, F) := by
  obtain ⟨Q, hM, hQ⟩ := st_band I F hI
  refine lw_al1 hY dL_law_192 ?_
  refine lw_call hY dL_law_193 kL_23 rfl (as := []) rfl rfl rfl (Nat.le_of_ble_eq_true rfl) (Nat.le_of_ble_eq_true rfl) hM ?_
  intro v μ' hv
  obtain ⟨r, I1, F1, rfl, rfl, Qm, hM2, hQ2⟩ := hQ v μ' hv
  refine lw_al2 hY dL_law_196 ?_
  refine lw_call hY dL_law_197 kL_26 rfl (as := []) rfl rfl rfl (Nat.le_of_ble_eq_true rfl) (Nat.le_of_ble_eq_true rfl) hM2 ?_
  intro v2 μ2 hv2
  obtain ⟨rfl, I2, rfl, hI2⟩ := hQ2 v2 μ2 hv2
  refine lw_eq 817 hY dL_law_200 (by decide) ?_
  exact kk I2 F1 hI2
theorem lw_c3 (hY : lw_Y E p s m meth c b L xs) (hi : i + 5 ≤ L) (hI : gl_I I F) (kk : ∀ I' F', gl_I I' F' → lw_g E p l e s m below meth c b 817 i [] (114, I', F')) : lw_g E p l e s m below meth c b 205 i [] (114, I, F) := by
  obtain ⟨Q, hM, hQ⟩ := st_player (gw_inI (xs (i + 1))) (gw_inI (xs (i + 2))) I F hI
  refine lw_al1 hY dL_law_205 ?_
  refine lw_rd 1 hY dL_law_206 dL_law_207 dL_law_208 dL_law_209 dL_law_210 rfl (by omega) ?_
  refine lw_rd 2 hY dL_law_211 dL_law_212 dL_law_213 dL_law_214 dL_law_215 rfl (by omega) ?_
  refine lw_call hY dL_law_216 kL_27 rfl (as := [_, _]) rfl rfl rfl (Nat.le_of_ble_eq_true rfl) (Nat.le_of_ble_eq_true rfl) hM ?_
  intro v μ' hv
  obtain ⟨r, I1, F1, rfl, rfl, Qm, hM2, hQ2⟩ := hQ v μ' hv
  refine lw_al2 hY dL_law_219 ?_
  refine lw_rd 1 hY dL_law_220 dL_law_221 dL_law_222 dL_law_223 dL_law_224 rfl (by omega) ?_
  refine lw_rd 2 hY dL_law_225 dL_law_226 dL_law_227 dL_law_228 dL_law_229 rfl (by omega) ?_
  refine lw_call hY dL_law_230 kL_31 rfl (as := [_, _]) rfl rfl rfl (Nat.le_of_ble_eq_true rfl) (Nat.le_of_ble_eq_true rfl) hM2 ?_
  intro v2 μ2 hv2
  obtain ⟨rfl, I2, rfl, hI2⟩ := hQ2 v2 μ2 hv2
  refine lw_eq 817 hY dL_law_233 (by decide) ?_
  exact kk I2 F1 hI2
theorem lw_c4 (hY : lw_Y E p s m meth c b L xs) (hi : i + 5 ≤ L) (hI : gl_I I F) (kk : ∀ I' F', gl_I I' F' → lw_g E p l e s m below meth c b 817 i [] (114, I', F')) : lw_g E p l e s m below meth c b 238 i [] (114, I, F) := by
  obtain ⟨Q, hM, hQ⟩ := st_span (gw_inI (xs (i + 1))) I F hI
  refine lw_al1 hY dL_law_238 ?_
  refine lw_rd 1 hY dL_law_239 dL_law_240 dL_law_241 dL_law_242 dL_law_243 rfl (by omega) ?_
  refine lw_call hY dL_law_244 kL_32 rfl (as := [_]) rfl rfl rfl (Nat.le_of_ble_eq_true rfl) (Nat.le_of_ble_eq_true rfl) hM ?_
  intro v μ' hv
  obtain ⟨r, I1, F1, rfl, rfl, Qm, hM2, hQ2⟩ := hQ v μ' hv
  refine lw_al2 hY dL_law_247 ?_
  refine lw_rd 1 hY dL_law_248 dL_law_249 dL_law_250 dL_law_251 dL_law_252 rfl (by omega) ?_
  refine lw_call hY dL_law_253 kL_35 rfl (as := [_]) rfl rfl rfl (Nat.le_of_ble_eq_true rfl) (Nat.le_of_ble_eq_true rfl) hM2 ?_
  intro v2 μ2 hv2
  obtain ⟨rfl, I2, rfl, hI2⟩ := hQ2 v2 μ2 hv2
  refine lw_eq 817 hY dL_law_256 (by decide) ?_
  exact kk I2 F1 hI2
theorem lw_c5 (hY : lw_Y E p s m meth c b L xs) (hi : i + 5 ≤ L) (hI : gl_I I F) (kk : ∀ I' F', gl_I I' F' → lw_g E p l e s m below meth c b 817 i [] (114, I', F')) : lw_g E p l e s m below meth c b 261 i [] (114, I, F) := by
  obtain ⟨Q, hM, hQ⟩ := st_chord (gw_inI (xs (i + 1))) (gw_inI (xs (i + 2))) I F hI
  refine lw_al1 hY dL_law_261 ?_
  refine lw_rd 1 hY dL_law_262 dL_law_263 dL_law_264 dL_law_265 dL_law_266 rfl (by omega) ?_
  refine lw_rd 2 hY dL_law_267 dL_law_268 dL_law_269 dL_law_270 dL_law_271 rfl (by omega) ?_
  refine lw_call hY dL_law_272 kL_36 rfl (as := [_, _]) rfl rfl rfl (Nat.le_of_ble_eq_true rfl) (Nat.le_of_ble_eq_true rfl) hM ?_
  intro v μ' hv
  obtain ⟨r, I1, F1, rfl, rfl, Qm, hM2, hQ2⟩ := hQ v μ' hv
  refine lw_al2 hY dL_law_275 ?_
  refine lw_rd 1 hY dL_law_276 dL_law_277 dL_law_278 dL_law_279 dL_law_280 rfl (by omega) ?_
  refine lw_rd 2 hY dL_law_281 dL_law_282 dL_law_283 dL_law_284 dL_law_285 rfl (by omega) ?_
  refine lw_call hY dL_law_286 kL_39 rfl (as := [_, _]) rfl rfl rfl (Nat.le_of_ble_eq_true rfl) (Nat.le_of_ble_eq_true rfl) hM2 ?_
  intro v2 μ2 hv2
  obtain ⟨rfl, I2, rfl, hI2⟩ := hQ2 v2 μ2 hv2
  refine lw_eq 817 hY dL_law_289 (by decide) ?_
  exact kk I2 F1 hI2
theorem lw_c6 (hY : lw_Y E p s m meth c b L xs) (hi : i + 5 ≤ L) (hI : gl_I I F) (kk : ∀ I' F', gl_I I' F' → lw_g E p l e s m below meth c b 817 i [] (114, I', F')) : lw_g E p l e s m below meth c b 294 i [] (114, I, F) := by
  obtain ⟨Q, hM, hQ⟩ := st_puts (gw_inI (xs (i + 1))) (gw_inI (xs (i + 2))) (gw_inI (xs (i + 3))) (gw_inI (xs (i + 4))) I F hI
  refine lw_al1 hY dL_law_294 ?_
  refine lw_rd 1 hY dL_law_295 dL_law_296 dL_law_297 dL_law_298 dL_law_299 rfl (by omega) ?_
  refine lw_rd 2 hY dL_law_300 dL_law_301 dL_law_302 dL_law_303 dL_law_304 rfl (by omega) ?_
  refine lw_rd 3 hY dL_law_305 dL_law_306 dL_law_307 dL_law_308 dL_law_309 rfl (by omega) ?_
  refine lw_rd 4 hY dL_law_310 dL_law_311 dL_law_312 dL_law_313 dL_law_314 rfl (by omega) ?_
  refine lw_call hY dL_law_315 kL_40 rfl (as := [_, _, _, _]) rfl rfl rfl (Nat.le_of_ble_eq_true rfl) (Nat.le_of_ble_eq_true rfl) hM ?_
  intro v μ' hv
  obtain ⟨r, I1, F1, rfl, rfl, Qm, hM2, hQ2⟩ := hQ v μ' hv
  refine lw_al2 hY dL_law_318 ?_
  refine lw_rd 1 hY dL_law_319 dL_law_320 dL_law_321 dL_law_322 dL_law_323 rfl (by omega) ?_
  refine lw_rd 2 hY dL_law_324 dL_law_325 dL_law_326 dL_law_327 dL_law_328 rfl (by omega) ?_
  refine lw_rd 3 hY dL_law_329 dL_law_330 dL_law_331 dL_law_332 dL_law_333 rfl (by omega) ?_
  refine lw_rd 4 hY dL_law_334 dL_law_335 dL_law_336 dL_law_337 dL_law_338 rfl (by omega) ?_
  refine lw_call hY dL_law_339 kL_44 rfl (as := [_, _, _, _]) rfl rfl rfl (Nat.le_of_ble_eq_true rfl) (Nat.le_of_ble_eq_true rfl) hM2 ?_
  intro v2 μ2 hv2
  obtain ⟨rfl, I2, rfl, hI2⟩ := hQ2 v2 μ2 hv2
  refine lw_eq 817 hY dL_law_342 (by decide) ?_
  exact kk I2 F1 hI2
theorem lw_c7 (hY : lw_Y E p s m meth c b L xs) (hi : i + 5 ≤ L) (hI : gl_I I F) (kk : ∀ I' F', gl_I I' F' → lw_g E p l e s m below meth c b 817 i [] (114, I', F')) : lw_g E p l e s m below meth c b 347 i [] (114, I, F) := by
  obtain ⟨Q, hM, hQ⟩ := st_takes (gw_inI (xs (i + 1))) I F hI
  refine lw_al1 hY dL_law_347 ?_
  refine lw_rd 1 hY dL_law_348 dL_law_349 dL_law_350 dL_law_351 dL_law_352 rfl (by omega) ?_
  refine lw_call hY dL_law_353 kL_45 rfl (as := [_]) rfl rfl rfl (Nat.le_of_ble_eq_true rfl) (Nat.le_of_ble_eq_true rfl) hM ?_
  intro v μ' hv
  obtain ⟨r, I1, F1, rfl, rfl, Qm, hM2, hQ2⟩ := hQ v μ' hv
  refine lw_al2 hY dL_law_356 ?_
  refine lw_rd 1 hY dL_law_357 dL_law_358 dL_law_359 dL_law_360 dL_law_361 rfl (by omega) ?_
  refine lw_call hY dL_law_362 kL_48 rfl (as := [_]) rfl rfl rfl (Nat.le_of_ble_eq_true rfl) (Nat.le_of_ble_eq_true rfl) hM2 ?_
  intro v2 μ2 hv2
  obtain ⟨rfl, I2, rfl, hI2⟩ := hQ2 v2 μ2 hv2
  refine lw_eq 817 hY dL_law_365 (by decide) ?_
  exact kk I2 F1 hI2
theorem lw_c8 (hY : lw_Y E p s m meth c b L xs) (hi : i + 5 ≤ L) (hI : gl_I I F) (kk : ∀ I' F', gl_I I' F' → lw_g E p l e s m below meth c b 817 i [] (114, I', F')) : lw_g E p l e s m below meth c b 370 i [] (114, I, F) := by
  obtain ⟨Q, hM, hQ⟩ := st_calls (gw_inI (xs (i + 1))) I F hI
  refine lw_al1 hY dL_law_370 ?_
  refine lw_rd 1 hY dL_law_371 dL_law_372 dL_law_373 dL_law_374 dL_law_375 rfl (by omega) ?_
  refine lw_call hY dL_law_376 kL_49 rfl (as := [_]) rfl rfl rfl (Nat.le_of_ble_eq_true rfl) (Nat.le_of_ble_eq_true rfl) hM ?_
  intro v μ' hv
  obtain ⟨r, I1, F1, rfl, rfl, Qm, hM2, hQ2⟩ := hQ v μ' hv
  refine lw_al2 hY dL_law_379 ?_
  refine lw_rd 1 hY dL_law_380 dL_law_381 dL_law_382 dL_law_383 dL_law_384 rfl (by omega) ?_
  refine lw_call hY dL_law_385 kL_52 rfl (as := [_]) rfl rfl rfl (Nat.le_of_ble_eq_true rfl) (Nat.le_of_ble_eq_true rfl) hM2 ?_
  intro v2 μ2 hv2
  obtain ⟨rfl, I2, rfl, hI2⟩ := hQ2 v2 μ2 hv2
  refine lw_eq 817 hY dL_law_388 (by decide) ?_
  exact kk I2 F1 hI2
theorem lw_c9 (hY : lw_Y E p s m meth c b L xs) (hi : i + 5 ≤ L) (hI : gl_I I F) (kk : ∀ I' F', gl_I I' F' → lw_g E p l e s m below meth c b 817 i [] (114, I', F')) : lw_g E p l e s m below meth c b 393 i [] (114, I, F) := by
  obtain ⟨Q, hM, hQ⟩ := st_tells (gw_inI (xs (i + 1))) (gw_inI (xs (i + 2))) I F hI
  refine lw_al1 hY dL_law_393 ?_
  refine lw_rd 1 hY dL_law_394 dL_law_395 dL_law_396 dL_law_397 dL_law_398 rfl (by omega) ?_
  refine lw_rd 2 hY dL_law_399 dL_law_400 dL_law_401 dL_law_402 dL_law_403 rfl (by omega) ?_
  refine lw_call hY dL_law_404 kL_53 rfl (as := [_, _]) rfl rfl rfl (Nat.le_of_ble_eq_true rfl) (Nat.le_of_ble_eq_true rfl) hM ?_
  intro v μ' hv
  obtain ⟨r, I1, F1, rfl, rfl, Qm, hM2, hQ2⟩ := hQ v μ' hv
  refine lw_al2 hY dL_law_407 ?_
  refine lw_rd 1 hY dL_law_408 dL_law_409 dL_law_410 dL_law_411 dL_law_412 rfl (by omega) ?_
  refine lw_rd 2 hY dL_law_413 dL_law_414 dL_law_415 dL_law_416 dL_law_417 rfl (by omega) ?_
  refine lw_call hY dL_law_418 kL_56 rfl (as := [_, _]) rfl rfl rfl (Nat.le_of_ble_eq_true rfl) (Nat.le_of_ble_eq_true rfl) hM2 ?_
  intro v2 μ2 hv2
  obtain ⟨rfl, I2, rfl, hI2⟩ := hQ2 v2 μ2 hv2
  refine lw_eq 817 hY dL_law_421 (by decide) ?_
  exact kk I2 F1 hI2
theorem lw_c10 (hY : lw_Y E p s m meth c b L xs) (hi : i + 5 ≤ L) (hI : gl_I I F) (kk : ∀ I' F', gl_I I' F' → lw_g E p l e s m below meth c b 817 i [] (114, I', F')) : lw_g E p l e s m below meth c b 426 i [] (114, I, F) := by
  obtain ⟨Q, hM, hQ⟩ := st_undo I F hI
  refine lw_al1 hY dL_law_426 ?_
  refine lw_call hY dL_law_427 kL_57 rfl (as := []) rfl rfl rfl (Nat.le_of_ble_eq_true rfl) (Nat.le_of_ble_eq_true rfl) hM ?_
  intro v μ' hv
  obtain ⟨r, I1, F1, rfl, rfl, Qm, hM2, hQ2⟩ := hQ v μ' hv
  refine lw_al2 hY dL_law_430 ?_
  refine lw_call hY dL_law_431 kL_60 rfl (as := []) rfl rfl rfl (Nat.le_of_ble_eq_true rfl) (Nat.le_of_ble_eq_true rfl) hM2 ?_
  intro v2 μ2 hv2
  obtain ⟨rfl, I2, rfl, hI2⟩ := hQ2 v2 μ2 hv2
  refine lw_eq 817 hY dL_law_434 (by decide) ?_
  exact kk I2 F1 hI2
theorem lw_c11 (hY : lw_Y E p s m meth c b L xs) (hi : i + 5 ≤ L) (hI : gl_I I F) (kk : ∀ I' F', gl_I I' F' → lw_g E p l e s m below meth c b 817 i [] (114, I', F')) : lw_g E p l e s m below meth c b 439 i [] (114, I, F) := by
  obtain ⟨Q, hM, hQ⟩ := st_could (gw_inI (xs (i + 1))) (gw_inI (xs (i + 2))) (gw_inI (xs (i + 3))) I F hI
  refine lw_al1 hY dL_law_439 ?_
  refine lw_rd 1 hY dL_law_440 dL_law_441 dL_law_442 dL_law_443 dL_law_444 rfl (by omega) ?_
  refine lw_rd 2 hY dL_law_445 dL_law_446 dL_law_447 dL_law_448 dL_law_449 rfl (by omega) ?_
  refine lw_rd 3 hY dL_law_450 dL_law_451 dL_law_452 dL_law_453 dL_law_454 rfl (by omega) ?_
  refine lw_call hY dL_law_455 kL_61 rfl (as := [_, _, _]) rfl rfl rfl (Nat.le_of_ble_eq_true rfl) (Nat.le_of_ble_eq_true rfl) hM ?_
  intro v μ' hv
  obtain ⟨r, I1, F1, rfl, rfl, Qm, hM2, hQ2⟩ := hQ v μ' hv
  refine lw_al2 hY dL_law_458 ?_
  refine lw_rd 1 hY dL_law_459 dL_law_460 dL_law_461 dL_law_462 dL_law_463 rfl (by omega) ?_
  refine lw_rd 2 hY dL_law_464 dL_law_465 dL_law_466 dL_law_467 dL_law_468 rfl (by omega) ?_
  refine lw_rd 3 hY dL_law_469 dL_law_470 dL_law_471 dL_law_472 dL_law_473 rfl (by omega) ?_
  refine lw_call hY dL_law_474 kL_65 rfl (as := [_, _, _]) rfl rfl rfl (Nat.le_of_ble_eq_true rfl) (Nat.le_of_ble_eq_true rfl) hM2 ?_
  intro v2 μ2 hv2
  obtain ⟨rfl, I2, rfl, hI2⟩ := hQ2 v2 μ2 hv2
  refine lw_eq 817 hY dL_law_477 (by decide) ?_
  exact kk I2 F1 hI2
theorem lw_c12 (hY : lw_Y E p s m meth c b L xs) (hi : i + 5 ≤ L) (hI : gl_I I F) (kk : ∀ I' F', gl_I I' F' → lw_g E p l e s m below meth c b 817 i [] (114, I', F')) : lw_g E p l e s m below meth c b 482 i [] (114, I, F) := by
  obtain ⟨Q, hM, hQ⟩ := st_spreads (gw_inI (xs (i + 1))) I F hI
  refine lw_al1 hY dL_law_482 ?_
  refine lw_rd 1 hY dL_law_483 dL_law_484 dL_law_485 dL_law_486 dL_law_487 rfl (by omega) ?_
  refine lw_call hY dL_law_488 kL_66 rfl (as := [_]) rfl rfl rfl (Nat.le_of_ble_eq_true rfl) (Nat.le_of_ble_eq_true rfl) hM ?_
  intro v μ' hv
  obtain ⟨r, I1, F1, rfl, rfl, Qm, hM2, hQ2⟩ := hQ v μ' hv
  refine lw_al2 hY dL_law_491 ?_
  refine lw_rd 1 hY dL_law_492 dL_law_493 dL_law_494 dL_law_495 dL_law_496 rfl (by omega) ?_
  refine lw_call hY dL_law_497 kL_69 rfl (as := [_]) rfl rfl rfl (Nat.le_of_ble_eq_true rfl) (Nat.le_of_ble_eq_true rfl) hM2 ?_
  intro v2 μ2 hv2
  obtain ⟨rfl, I2, rfl, hI2⟩ := hQ2 v2 μ2 hv2
  refine lw_eq 817 hY dL_law_500 (by decide) ?_
  exact kk I2 F1 hI2
theorem lw_c13 (hY : lw_Y E p s m meth c b L xs) (hi : i + 5 ≤ L) (hI : gl_I I F) (kk : ∀ I' F', gl_I I' F' → lw_g E p l e s m below meth c b 817 i [] (114, I', F')) : lw_g E p l e s m below meth c b 505 i [] (114, I, F) := by
  obtain ⟨Q, hM, hQ⟩ := st_score (gw_inI (xs (i + 1))) I F hI
  refine lw_al1 hY dL_law_505 ?_
  refine lw_rd 1 hY dL_law_506 dL_law_507 dL_law_508 dL_law_509 dL_law_510 rfl (by omega) ?_
  refine lw_call hY dL_law_511 kL_70 rfl (as := [_]) rfl rfl rfl (Nat.le_of_ble_eq_true rfl) (Nat.le_of_ble_eq_true rfl) hM ?_
  intro v μ' hv
  obtain ⟨r, I1, F1, rfl, rfl, Qm, hM2, hQ2⟩ := hQ v μ' hv
  refine lw_al2 hY dL_law_514 ?_
  refine lw_rd 1 hY dL_law_515 dL_law_516 dL_law_517 dL_law_518 dL_law_519 rfl (by omega) ?_
  refine lw_call hY dL_law_520 kL_73 rfl (as := [_]) rfl rfl rfl (Nat.le_of_ble_eq_true rfl) (Nat.le_of_ble_eq_true rfl) hM2 ?_
  intro v2 μ2 hv2
  obtain ⟨rfl, I2, rfl, hI2⟩ := hQ2 v2 μ2 hv2
  refine lw_eq 817 hY dL_law_523 (by decide) ?_
  exact kk I2 F1 hI2
theorem lw_c14 (hY : lw_Y E p s m meth c b L xs) (hi : i + 5 ≤ L) (hI : gl_I I F) (kk : ∀ I' F', gl_I I' F' → lw_g E p l e s m below meth c b 817 i [] (114, I', F')) : lw_g E p l e s m below meth c b 528 i [] (114, I, F) := by
  obtain ⟨Q, hM, hQ⟩ := st_hand (gw_inI (xs (i + 1))) (gw_inI (xs (i + 2))) I F hI
  refine lw_al1 hY dL_law_528 ?_
  refine lw_rd 1 hY dL_law_529 dL_law_530 dL_law_531 dL_law_532 dL_law_533 rfl (by omega) ?_
  refine lw_rd 2 hY dL_law_534 dL_law_535 dL_law_536 dL_law_537 dL_law_538 rfl (by omega) ?_
  refine lw_call hY dL_law_539 kL_74 rfl (as := [_, _]) rfl rfl rfl (Nat.le_of_ble_eq_true rfl) (Nat.le_of_ble_eq_true rfl) hM ?_
  intro v μ' hv
  obtain ⟨r, I1, F1, rfl, rfl, Qm, hM2, hQ2⟩ := hQ v μ' hv
  refine lw_al2 hY dL_law_542 ?_
  refine lw_rd 1 hY dL_law_543 dL_law_544 dL_law_545 dL_law_546 dL_law_547 rfl (by omega) ?_
  refine lw_rd 2 hY dL_law_548 dL_law_549 dL_law_550 dL_law_551 dL_law_552 rfl (by omega) ?_
  refine lw_call hY dL_law_553 kL_77 rfl (as := [_, _]) rfl rfl rfl (Nat.le_of_ble_eq_true rfl) (Nat.le_of_ble_eq_true rfl) hM2 ?_
  intro v2 μ2 hv2
  obtain ⟨rfl, I2, rfl, hI2⟩ := hQ2 v2 μ2 hv2
  refine lw_eq 817 hY dL_law_556 (by decide) ?_
  exact kk I2 F1 hI2
theorem lw_c15 (hY : lw_Y E p s m meth c b L xs) (hi : i + 5 ≤ L) (hI : gl_I I F) (kk : ∀ I' F', gl_I I' F' → lw_g E p l e s m below meth c b 817 i [] (114, I', F')) : lw_g E p l e s m below meth c b 561 i [] (114, I, F) := by
  obtain ⟨Q, hM, hQ⟩ := st_loud (gw_inI (xs (i + 1))) (gw_inI (xs (i + 2))) I F hI
  refine lw_al1 hY dL_law_561 ?_
  refine lw_rd 1 hY dL_law_562 dL_law_563 dL_law_564 dL_law_565 dL_law_566 rfl (by omega) ?_
  refine lw_rd 2 hY dL_law_567 dL_law_568 dL_law_569 dL_law_570 dL_law_571 rfl (by omega) ?_
  refine lw_call hY dL_law_572 kL_78 rfl (as := [_, _]) rfl rfl rfl (Nat.le_of_ble_eq_true rfl) (Nat.le_of_ble_eq_true rfl) hM ?_
  intro v μ' hv
  obtain ⟨r, I1, F1, rfl, rfl, Qm, hM2, hQ2⟩ := hQ v μ' hv
  refine lw_al2 hY dL_law_575 ?_
  refine lw_rd 1 hY dL_law_576 dL_law_577 dL_law_578 dL_law_579 dL_law_580 rfl (by omega) ?_
  refine lw_rd 2 hY dL_law_581 dL_law_582 dL_law_583 dL_law_584 dL_law_585 rfl (by omega) ?_
  refine lw_call hY dL_law_586 kL_81 rfl (as := [_, _]) rfl rfl rfl (Nat.le_of_ble_eq_true rfl) (Nat.le_of_ble_eq_true rfl) hM2 ?_
  intro v2 μ2 hv2
  obtain ⟨rfl, I2, rfl, hI2⟩ := hQ2 v2 μ2 hv2
  refine lw_eq 817 hY dL_law_589 (by decide) ?_
  exact kk I2 F1 hI2
theorem lw_c16 (hY : lw_Y E p s m meth c b L xs) (hi : i + 5 ≤ L) (hI : gl_I I F) (kk : ∀ I' F', gl_I I' F' → lw_g E p l e s m below meth c b 817 i [] (114, I', F')) : lw_g E p l e s m below meth c b 594 i [] (114, I, F) := by
  obtain ⟨Q, hM, hQ⟩ := st_couldRest (gw_inI (xs (i + 1))) I F hI
  refine lw_al1 hY dL_law_594 ?_
  refine lw_rd 1 hY dL_law_595 dL_law_596 dL_law_597 dL_law_598 dL_law_599 rfl (by omega) ?_
  refine lw_call hY dL_law_600 kL_82 rfl (as := [_]) rfl rfl rfl (Nat.le_of_ble_eq_true rfl) (Nat.le_of_ble_eq_true rfl) hM ?_
  intro v μ' hv
  obtain ⟨r, I1, F1, rfl, rfl, Qm, hM2, hQ2⟩ := hQ v μ' hv
  refine lw_al2 hY dL_law_603 ?_
  refine lw_rd 1 hY dL_law_604 dL_law_605 dL_law_606 dL_law_607 dL_law_608 rfl (by omega) ?_
  refine lw_call hY dL_law_609 kL_85 rfl (as := [_]) rfl rfl rfl (Nat.le_of_ble_eq_true rfl) (Nat.le_of_ble_eq_true rfl) hM2 ?_
  intro v2 μ2 hv2
  obtain ⟨rfl, I2, rfl, hI2⟩ := hQ2 v2 μ2 hv2
  refine lw_eq 817 hY dL_law_612 (by decide) ?_
  exact kk I2 F1 hI2
theorem lw_c17 (hY : lw_Y E p s m meth c b L xs) (hi : i + 5 ≤ L) (hI : gl_I I F) (kk : ∀ I' F', gl_I I' F' → lw_g E p l e s m below meth c b 817 i [] (114, I', F')) : lw_g E p l e s m below meth c b 617 i [] (114, I, F) := by
  obtain ⟨Q, hM, hQ⟩ := st_move (gw_inI (xs (i + 1))) (gw_inI (xs (i + 2))) I F hI
  refine lw_al1 hY dL_law_617 ?_
  refine lw_rd 1 hY dL_law_618 dL_law_619 dL_law_620 dL_law_621 dL_law_622 rfl (by omega) ?_
  refine lw_rd 2 hY dL_law_623 dL_law_624 dL_law_625 dL_law_626 dL_law_627 rfl (by omega) ?_
  refine lw_call hY dL_law_628 kL_86 rfl (as := [_, _]) rfl rfl rfl (Nat.le_of_ble_eq_true rfl) (Nat.le_of_ble_eq_true rfl) hM ?_
  intro v μ' hv
  obtain ⟨r, I1, F1, rfl, rfl, Qm, hM2, hQ2⟩ := hQ v μ' hv
  refine lw_al2 hY dL_law_631 ?_
  refine lw_rd 1 hY dL_law_632 dL_law_633 dL_law_634 dL_law_635 dL_law_636 rfl (by omega) ?_
  refine lw_rd 2 hY dL_law_637 dL_law_638 dL_law_639 dL_law_640 dL_law_641 rfl (by omega) ?_
  refine lw_call hY dL_law_642 kL_89 rfl (as := [_, _]) rfl rfl rfl (Nat.le_of_ble_eq_true rfl) (Nat.le_of_ble_eq_true rfl) hM2 ?_
  intro v2 μ2 hv2
  obtain ⟨rfl, I2, rfl, hI2⟩ := hQ2 v2 μ2 hv2
  refine lw_eq 817 hY dL_law_645 (by decide) ?_
  exact kk I2 F1 hI2
theorem lw_c18 (hY : lw_Y E p s m meth c b L xs) (hi : i + 5 ≤ L) (hI : gl_I I F) (kk : ∀ I' F', gl_I I' F' → lw_g E p l e s m below meth c b 817 i [] (114, I', F')) : lw_g E p l e s m below meth c b 650 i [] (114, I, F) := by
  obtain ⟨Q, hM, hQ⟩ := st_reach I F hI
  refine lw_al1 hY dL_law_650 ?_
  refine lw_call hY dL_law_651 kL_90 rfl (as := []) rfl rfl rfl (Nat.le_of_ble_eq_true rfl) (Nat.le_of_ble_eq_true rfl) hM ?_
  intro v μ' hv
  obtain ⟨r, I1, F1, rfl, rfl, Qm, hM2, hQ2⟩ := hQ v μ' hv
  refine lw_al2 hY dL_law_654 ?_
  refine lw_call hY dL_law_655 kL_93 rfl (as := []) rfl rfl rfl (Nat.le_of_ble_eq_true rfl) (Nat.le_of_ble_eq_true rfl) hM2 ?_
  intro v2 μ2 hv2
  obtain ⟨rfl, I2, rfl, hI2⟩ := hQ2 v2 μ2 hv2
  refine lw_eq 817 hY dL_law_658 (by decide) ?_
  exact kk I2 F1 hI2
theorem lw_c19 (hY : lw_Y E p s m meth c b L xs) (hi : i + 5 ≤ L) (hI : gl_I I F) (kk : ∀ I' F', gl_I I' F' → lw_g E p l e s m below meth c b 817 i [] (114, I', F')) : lw_g E p l e s m below meth c b 663 i [] (114, I, F) := by
  obtain ⟨Q, hM, hQ⟩ := st_fewest I F hI
  refine lw_al1 hY dL_law_663 ?_
  refine lw_call hY dL_law_664 kL_94 rfl (as := []) rfl rfl rfl (Nat.le_of_ble_eq_true rfl) (Nat.le_of_ble_eq_true rfl) hM ?_
  intro v μ' hv
  obtain ⟨r, I1, F1, rfl, rfl, Qm, hM2, hQ2⟩ := hQ v μ' hv
  refine lw_al2 hY dL_law_667 ?_
  refine lw_call hY dL_law_668 kL_97 rfl (as := []) rfl rfl rfl (Nat.le_of_ble_eq_true rfl) (Nat.le_of_ble_eq_true rfl) hM2 ?_
  intro v2 μ2 hv2
  obtain ⟨rfl, I2, rfl, hI2⟩ := hQ2 v2 μ2 hv2
  refine lw_eq 817 hY dL_law_671 (by decide) ?_
  exact kk I2 F1 hI2
theorem lw_c20 (hY : lw_Y E p s m meth c b L xs) (hi : i + 5 ≤ L) (hI : gl_I I F) (kk : ∀ I' F', gl_I I' F' → lw_g E p l e s m below meth c b 817 i [] (114, I', F')) : lw_g E p l e s m below meth c b 676 i [] (114, I, F) := by
  obtain ⟨Q, hM, hQ⟩ := st_bear I F hI
  refine lw_al1 hY dL_law_676 ?_
  refine lw_call hY dL_law_677 kL_98 rfl (as := []) rfl rfl rfl (Nat.le_of_ble_eq_true rfl) (Nat.le_of_ble_eq_true rfl) hM ?_
  intro v μ' hv
  obtain ⟨r, I1, F1, rfl, rfl, Qm, hM2, hQ2⟩ := hQ v μ' hv
  refine lw_al2 hY dL_law_680 ?_
  refine lw_call hY dL_law_681 kL_101 rfl (as := []) rfl rfl rfl (Nat.le_of_ble_eq_true rfl) (Nat.le_of_ble_eq_true rfl) hM2 ?_
  intro v2 μ2 hv2
  obtain ⟨rfl, I2, rfl, hI2⟩ := hQ2 v2 μ2 hv2
  refine lw_eq 817 hY dL_law_684 (by decide) ?_
  exact kk I2 F1 hI2
theorem lw_c21 (hY : lw_Y E p s m meth c b L xs) (hi : i + 5 ≤ L) (hI : gl_I I F) (kk : ∀ I' F', gl_I I' F' → lw_g E p l e s m below meth c b 817 i [] (114, I', F')) : lw_g E p l e s m below meth c b 689 i [] (114, I, F) := by
  obtain ⟨Q, hM, hQ⟩ := st_hears (gw_inI (xs (i + 1))) (gw_inI (xs (i + 2))) I F hI
  refine lw_al1 hY dL_law_689 ?_
  refine lw_rd 1 hY dL_law_690 dL_law_691 dL_law_692 dL_law_693 dL_law_694 rfl (by omega) ?_
  refine lw_rd 2 hY dL_law_695 dL_law_696 dL_law_697 dL_law_698 dL_law_699 rfl (by omega) ?_
  refine lw_call hY dL_law_700 kL_102 rfl (as := [_, _]) rfl rfl rfl (Nat.le_of_ble_eq_true rfl) (Nat.le_of_ble_eq_true rfl) hM ?_
  intro v μ' hv
  obtain ⟨r, I1, F1, rfl, rfl, Qm, hM2, hQ2⟩ := hQ v μ' hv
  refine lw_al2 hY dL_law_703 ?_
  refine lw_rd 1 hY dL_law_704 dL_law_705 dL_law_706 dL_law_707 dL_law_708 rfl (by omega) ?_
  refine lw_rd 2 hY dL_law_709 dL_law_710 dL_law_711 dL_law_712 dL_law_713 rfl (by omega) ?_
  refine lw_call hY dL_law_714 kL_105 rfl (as := [_, _]) rfl rfl rfl (Nat.le_of_ble_eq_true rfl) (Nat.le_of_ble_eq_true rfl) hM2 ?_
  intro v2 μ2 hv2
  obtain ⟨rfl, I2, rfl, hI2⟩ := hQ2 v2 μ2 hv2
  refine lw_eq 817 hY dL_law_717 (by decide) ?_
  exact kk I2 F1 hI2
theorem lw_c22 (hY : lw_Y E p s m meth c b L xs) (hi : i + 5 ≤ L) (hI : gl_I I F) (kk : ∀ I' F', gl_I I' F' → lw_g E p l e s m below meth c b 817 i [] (114, I', F')) : lw_g E p l e s m below meth c b 722 i [] (114, I, F) := by
  obtain ⟨Q, hM, hQ⟩ := st_forget I F hI
  refine lw_al1 hY dL_law_722 ?_
  refine lw_call hY dL_law_723 kL_106 rfl (as := []) rfl rfl rfl (Nat.le_of_ble_eq_true rfl) (Nat.le_of_ble_eq_true rfl) hM ?_
  intro v μ' hv
  obtain ⟨r, I1, F1, rfl, rfl, Qm, hM2, hQ2⟩ := hQ v μ' hv
  refine lw_al2 hY dL_law_726 ?_
  refine lw_call hY dL_law_727 kL_109 rfl (as := []) rfl rfl rfl (Nat.le_of_ble_eq_true rfl) (Nat.le_of_ble_eq_true rfl) hM2 ?_
  intro v2 μ2 hv2
  obtain ⟨rfl, I2, rfl, hI2⟩ := hQ2 v2 μ2 hv2
  refine lw_eq 817 hY dL_law_730 (by decide) ?_
  exact kk I2 F1 hI2
theorem lw_c23 (hY : lw_Y E p s m meth c b L xs) (hi : i + 5 ≤ L) (hI : gl_I I F) (kk : ∀ I' F', gl_I I' F' → lw_g E p l e s m below meth c b 817 i [] (114, I', F')) : lw_g E p l e s m below meth c b 735 i [] (114, I, F) := by
  obtain ⟨Q, hM, hQ⟩ := st_ill I F hI
  refine lw_al1 hY dL_law_735 ?_
  refine lw_call hY dL_law_736 kL_110 rfl (as := []) rfl rfl rfl (Nat.le_of_ble_eq_true rfl) (Nat.le_of_ble_eq_true rfl) hM ?_
  intro v μ' hv
  obtain ⟨r, I1, F1, rfl, rfl, Qm, hM2, hQ2⟩ := hQ v μ' hv
  refine lw_al2 hY dL_law_739 ?_
  refine lw_call hY dL_law_740 kL_113 rfl (as := []) rfl rfl rfl (Nat.le_of_ble_eq_true rfl) (Nat.le_of_ble_eq_true rfl) hM2 ?_
  intro v2 μ2 hv2
  obtain ⟨rfl, I2, rfl, hI2⟩ := hQ2 v2 μ2 hv2
  refine lw_eq 817 hY dL_law_743 (by decide) ?_
  exact kk I2 F1 hI2
theorem lw_c24 (hY : lw_Y E p s m meth c b L xs) (hi : i + 5 ≤ L) (hI : gl_I I F) (kk : ∀ I' F', gl_I I' F' → lw_g E p l e s m below meth c b 817 i [] (114, I', F')) : lw_g E p l e s m below meth c b 748 i [] (114, I, F) := by
  obtain ⟨Q, hM, hQ⟩ := st_keep (gw_inI (xs (i + 1))) I F hI
  refine lw_al1 hY dL_law_748 ?_
  refine lw_rd 1 hY dL_law_749 dL_law_750 dL_law_751 dL_law_752 dL_law_753 rfl (by omega) ?_
  refine lw_call hY dL_law_754 kL_114 rfl (as := [_]) rfl rfl rfl (Nat.le_of_ble_eq_true rfl) (Nat.le_of_ble_eq_true rfl) hM ?_
  intro v μ' hv
  obtain ⟨r, I1, F1, rfl, rfl, Qm, hM2, hQ2⟩ := hQ v μ' hv
  refine lw_al2 hY dL_law_757 ?_
  refine lw_rd 1 hY dL_law_758 dL_law_759 dL_law_760 dL_law_761 dL_law_762 rfl (by omega) ?_
  refine lw_call hY dL_law_763 kL_117 rfl (as := [_]) rfl rfl rfl (Nat.le_of_ble_eq_true rfl) (Nat.le_of_ble_eq_true rfl) hM2 ?_
  intro v2 μ2 hv2
  obtain ⟨rfl, I2, rfl, hI2⟩ := hQ2 v2 μ2 hv2
  refine lw_eq 817 hY dL_law_766 (by decide) ?_
  exact kk I2 F1 hI2
theorem lw_c25 (hY : lw_Y E p s m meth c b L xs) (hi : i + 5 ≤ L) (hI : gl_I I F) (kk : ∀ I' F', gl_I I' F' → lw_g E p l e s m below meth c b 817 i [] (114, I', F')) : lw_g E p l e s m below meth c b 771 i [] (114, I, F) := by
  obtain ⟨Q, hM, hQ⟩ := st_back (gw_inI (xs (i + 1))) I F hI
  refine lw_al1 hY dL_law_771 ?_
  refine lw_rd 1 hY dL_law_772 dL_law_773 dL_law_774 dL_law_775 dL_law_776 rfl (by omega) ?_
  refine lw_call hY dL_law_777 kL_118 rfl (as := [_]) rfl rfl rfl (Nat.le_of_ble_eq_true rfl) (Nat.le_of_ble_eq_true rfl) hM ?_
  intro v μ' hv
  obtain ⟨r, I1, F1, rfl, rfl, Qm, hM2, hQ2⟩ := hQ v μ' hv
  refine lw_al2 hY dL_law_780 ?_
  refine lw_rd 1 hY dL_law_781 dL_law_782 dL_law_783 dL_law_784 dL_law_785 rfl (by omega) ?_
  refine lw_call hY dL_law_786 kL_121 rfl (as := [_]) rfl rfl rfl (Nat.le_of_ble_eq_true rfl) (Nat.le_of_ble_eq_true rfl) hM2 ?_
  intro v2 μ2 hv2
  obtain ⟨rfl, I2, rfl, hI2⟩ := hQ2 v2 μ2 hv2
  refine lw_eq 817 hY dL_law_789 (by decide) ?_
  exact kk I2 F1 hI2
theorem lw_c26 (hY : lw_Y E p s m meth c b L xs) (hi : i + 5 ≤ L) (hI : gl_I I F) (kk : ∀ I' F', gl_I I' F' → lw_g E p l e s m below meth c b 817 i [] (114, I', F')) : lw_g E p l e s m below meth c b 794 i [] (114, I, F) := by
  obtain ⟨Q, hM, hQ⟩ := st_count (gw_inI (xs (i + 1))) I F hI
  refine lw_al1 hY dL_law_794 ?_
  refine lw_rd 1 hY dL_law_795 dL_law_796 dL_law_797 dL_law_798 dL_law_799 rfl (by omega) ?_
  refine lw_call hY dL_law_800 kL_122 rfl (as := [_]) rfl rfl rfl (Nat.le_of_ble_eq_true rfl) (Nat.le_of_ble_eq_true rfl) hM ?_
  intro v μ' hv
  obtain ⟨r, I1, F1, rfl, rfl, Qm, hM2, hQ2⟩ := hQ v μ' hv
  refine lw_al2 hY dL_law_803 ?_
  refine lw_rd 1 hY dL_law_804 dL_law_805 dL_law_806 dL_law_807 dL_law_808 rfl (by omega) ?_
  refine lw_call hY dL_law_809 kL_125 rfl (as := [_]) rfl rfl rfl (Nat.le_of_ble_eq_true rfl) (Nat.le_of_ble_eq_true rfl) hM2 ?_
  intro v2 μ2 hv2
  obtain ⟨rfl, I2, rfl, hI2⟩ := hQ2 v2 μ2 hv2
  refine lw_eq 817 hY dL_law_812 (by decide) ?_
  exact kk I2 F1 hI2
theorem lw_body (hY : lw_Y E p s m meth c b L xs) (hi : i + 5 ≤ L) (hI : gl_I I F) (kk : ∀ I' F', gl_I I' F' → lw_g E p l e s m below meth c b 817 i [] (114, I', F')) : lw_g E p l e s m below meth c b 26 i [] (114, I, F) := by
  refine lw_rd0 hY dL_law_26 dL_law_27 dL_law_28 (by omega) ?_
  refine lw_bi hY dL_law_29 (by decide) ?_
  refine lw_an (v := (((xs i).toBitVec.toNat % 32 : Nat) : Int)) hY dL_law_31 (by rw [gw_ofInt]; exact ga_and31 _) ?_
  have h32 : (xs i).toBitVec.toNat % 32 < 32 := Nat.mod_lt _ (by omega)
  generalize (xs i).toBitVec.toNat % 32 = t at h32
  rcases (show t = 0 ∨ t = 1 ∨ t = 2 ∨ t = 3 ∨ t = 4 ∨ t = 5 ∨ t = 6 ∨ t = 7 ∨ t = 8 ∨ t = 9 ∨ t = 10 ∨ t = 11 ∨ t = 12 ∨ t = 13 ∨ t = 14 ∨ t = 15 ∨ t = 16 ∨ t = 17 ∨ t = 18 ∨ t = 19 ∨ t = 20 ∨ t = 21 ∨ t = 22 ∨ t = 23 ∨ t = 24 ∨ t = 25 ∨ t = 26 ∨ 27 ≤ t by omega) with rfl | rfl | rfl | rfl | rfl | rfl | rfl | rfl | rfl | rfl | rfl | rfl | rfl | rfl | rfl | rfl | rfl | rfl | rfl | rfl | rfl | rfl | rfl | rfl | rfl | rfl | rfl | h27
  · refine lw_tabIn 156 hY dL_law_32 (by unfold gw_in; omega) (by omega) (by omega) rfl (by decide) ?_
    exact lw_c0 hY hi hI kk
  · refine lw_tabIn 179 hY dL_law_32 (by unfold gw_in; omega) (by omega) (by omega) rfl (by decide) ?_
    exact lw_c1 hY hi hI kk
  · refine lw_tabIn 192 hY dL_law_32 (by unfold gw_in; omega) (by omega) (by omega) rfl (by decide) ?_
    exact lw_c2 hY hi hI kk
  · refine lw_tabIn 205 hY dL_law_32 (by unfold gw_in; omega) (by omega) (by omega) rfl (by decide) ?_
    exact lw_c3 hY hi hI kk
  · refine lw_tabIn 238 hY dL_law_32 (by unfold gw_in; omega) (by omega) (by omega) rfl (by decide) ?_
    exact lw_c4 hY hi hI kk
  · refine lw_tabIn 261 hY dL_law_32 (by unfold gw_in; omega) (by omega) (by omega) rfl (by decide) ?_
    exact lw_c5 hY hi hI kk
  · refine lw_tabIn 294 hY dL_law_32 (by unfold gw_in; omega) (by omega) (by omega) rfl (by decide) ?_
    exact lw_c6 hY hi hI kk
  · refine lw_tabIn 347 hY dL_law_32 (by unfold gw_in; omega) (by omega) (by omega) rfl (by decide) ?_
    exact lw_c7 hY hi hI kk
  · refine lw_tabIn 370 hY dL_law_32 (by unfold gw_in; omega) (by omega) (by omega) rfl (by decide) ?_
    exact lw_c8 hY hi hI kk
  · refine lw_tabIn 393 hY dL_law_32 (by unfold gw_in; omega) (by omega) (by omega) rfl (by decide) ?_
    exact lw_c9 hY hi hI kk
  · refine lw_tabIn 426 hY dL_law_32 (by unfold gw_in; omega) (by omega) (by omega) rfl (by decide) ?_
    exact lw_c10 hY hi hI kk
  · refine lw_tabIn 439 hY dL_law_32 (by unfold gw_in; omega) (by omega) (by omega) rfl (by decide) ?_
    exact lw_c11 hY hi hI kk
  · refine lw_tabIn 482 hY dL_law_32 (by unfold gw_in; omega) (by omega) (by omega) rfl (by decide) ?_
    exact lw_c12 hY hi hI kk
  · refine lw_tabIn 505 hY dL_law_32 (by unfold gw_in; omega) (by omega) (by omega) rfl (by decide) ?_
    exact lw_c13 hY hi hI kk
  · refine lw_tabIn 528 hY dL_law_32 (by unfold gw_in; omega) (by omega) (by omega) rfl (by decide) ?_
    exact lw_c14 hY hi hI kk
  · refine lw_tabIn 561 hY dL_law_32 (by unfold gw_in; omega) (by omega) (by omega) rfl (by decide) ?_
    exact lw_c15 hY hi hI kk
  · refine lw_tabIn 594 hY dL_law_32 (by unfold gw_in; omega) (by omega) (by omega) rfl (by decide) ?_
    exact lw_c16 hY hi hI kk
  · refine lw_tabIn 617 hY dL_law_32 (by unfold gw_in; omega) (by omega) (by omega) rfl (by decide) ?_
    exact lw_c17 hY hi hI kk
  · refine lw_tabIn 650 hY dL_law_32 (by unfold gw_in; omega) (by omega) (by omega) rfl (by decide) ?_
    exact lw_c18 hY hi hI kk
  · refine lw_tabIn 663 hY dL_law_32 (by unfold gw_in; omega) (by omega) (by omega) rfl (by decide) ?_
    exact lw_c19 hY hi hI kk
  · refine lw_tabIn 676 hY dL_law_32 (by unfold gw_in; omega) (by omega) (by omega) rfl (by decide) ?_
    exact lw_c20 hY hi hI kk
  · refine lw_tabIn 689 hY dL_law_32 (by unfold gw_in; omega) (by omega) (by omega) rfl (by decide) ?_
    exact lw_c21 hY hi hI kk
  · refine lw_tabIn 722 hY dL_law_32 (by unfold gw_in; omega) (by omega) (by omega) rfl (by decide) ?_
    exact lw_c22 hY hi hI kk
  · refine lw_tabIn 735 hY dL_law_32 (by unfold gw_in; omega) (by omega) (by omega) rfl (by decide) ?_
    exact lw_c23 hY hi hI kk
  · refine lw_tabIn 748 hY dL_law_32 (by unfold gw_in; omega) (by omega) (by omega) rfl (by decide) ?_
    exact lw_c24 hY hi hI kk
  · refine lw_tabIn 771 hY dL_law_32 (by unfold gw_in; omega) (by omega) (by omega) rfl (by decide) ?_
    exact lw_c25 hY hi hI kk
  · refine lw_tabIn 794 hY dL_law_32 (by unfold gw_in; omega) (by omega) (by omega) rfl (by decide) ?_
    exact lw_c26 hY hi hI kk
  · refine lw_tabOut 817 hY dL_law_32 (by unfold gw_in; omega) (by omega) (by decide) ?_
    exact kk I F hI
theorem lw_loop (hY : lw_Y E p s m meth c b L xs) : ∀ (k i : Nat) (I : Nat → Nat → Int) (F : Nat → Nat → Option Nat), L ≤ i + k → i ≤ L + 5 → gl_I I F → lw_g E p l e s m below meth c b 18 i [] (114, I, F) := by
  have hL := hY.2.2.2.2.2.2.2.2.2.1
  intro k
  induction k with
  | zero =>
    intro i I F h1 h2 hI
    exact lw_head hY (by omega) (lw_end hY) (fun h => by omega)
  | succ k ih =>
    intro i I F h1 h2 hI
    exact lw_head hY (by omega) (lw_end hY) (fun h => lw_body hY h hI (fun I' F' hI' => lw_next hY (ih (i + 5) I' F' (by omega) (by omega) hI')))
end LW
