/-! the law's cases, but for text() -/
def LV (b : Nat) (ρ : Nat → Nat) (i : Nat) : List (Option Value) := [some (.ref b), some (.ref (ρ 0)), some (.ref (ρ 51)), some (.int (iZ (i : Int)))]
section LCASE
variable {K : Mk} {G : Gt} {ρ ρ0 : Nat → Nat} {X : Nat → RuT} {tc : Nat} {cl : Nat → Nat} {sh1 : Nat → Shc} {σ : Sig} {b L i ca cb : Nat} {xs : Nat → Int32}
theorem lc_town (A : AL K G "FirstSeenLaw" code 4 2048 84000 (TL b L xs) 0 ρ0 (NN tc) ρ sh1 ca cb) (hR : RR X tc cl σ) (hi : i + 5 < L) (hL : L ≤ 3072) (kk : ∀ σ', RR X tc cl σ' → Ex K G (NN tc) ρ (shp tc cl) 1210 (LV b ρ i) [] σ') : Ex K G (NN tc) ρ (shp tc cl) 180 (LV b ρ i) [] σ := by
  obtain ⟨P, hM, hp⟩ := J_town (l := K.2.1) (G := G) (ρ := ρ) hR (ys_in (xs := xs) (i + 1)) (ys_in (xs := xs) (i + 2)) (ys_in (xs := xs) (i + 3))
  unfold LV
  refine x_aload_n 181 A.1 dL_law_180 rfl rfl rfl ?_
  refine xl_arg (k := 1) 186 A dL_law_181 dL_law_182 dL_law_183 dL_law_184 dL_law_185 rfl (by omega) hL ?_
  refine xl_arg (k := 2) 191 A dL_law_186 dL_law_187 dL_law_188 dL_law_189 dL_law_190 rfl (by omega) hL ?_
  refine xl_arg (k := 3) 196 A dL_law_191 dL_law_192 dL_law_193 dL_law_194 dL_law_195 rfl (by omega) hL ?_
  refine x_callV 199 A.1 dL_law_196 rfl hM rfl (lt79 (by decide)) rfl tb_2_210 tb_2_211 tb_2_212 tb_1_1 tb_2_213 (na := 3) (by decide +kernel) rfl ⟨Nat.le_of_ble_eq_true rfl, Nat.le_of_ble_eq_true rfl⟩ rfl (Nat.le_of_ble_eq_true rfl) rfl (fun r σ1 hq hR1 => ?_)
  obtain ⟨z, rfl, P2, hM2, hp2⟩ := hp _ _ hq
  refine x_aload_n 200 A.1 dL_law_199 rfl rfl rfl ?_
  refine xl_arg (k := 1) 205 A dL_law_200 dL_law_201 dL_law_202 dL_law_203 dL_law_204 rfl (by omega) hL ?_
  refine xl_arg (k := 2) 210 A dL_law_205 dL_law_206 dL_law_207 dL_law_208 dL_law_209 rfl (by omega) hL ?_
  refine xl_arg (k := 3) 215 A dL_law_210 dL_law_211 dL_law_212 dL_law_213 dL_law_214 rfl (by omega) hL ?_
  refine x_callV 218 A.1 dL_law_215 rfl hM2 rfl (lt79 (by decide)) rfl tb_5_65 tb_5_66 tb_5_67 tb_1_20 tb_5_68 (na := 3) (by decide +kernel) rfl ⟨Nat.le_of_ble_eq_true rfl, Nat.le_of_ble_eq_true rfl⟩ rfl (Nat.le_of_ble_eq_true rfl) rfl (fun r2 σ2 hq2 hR2 => ?_)
  obtain ⟨rfl, hRR⟩ := hp2 _ _ hq2
  exact xl_same 1210 A.1 dL_law_218 rfl (kk _ hRR)
theorem lc_high (A : AL K G "FirstSeenLaw" code 4 2048 84000 (TL b L xs) 0 ρ0 (NN tc) ρ sh1 ca cb) (hR : RR X tc cl σ) (hi : i + 5 < L) (hL : L ≤ 3072) (kk : ∀ σ', RR X tc cl σ' → Ex K G (NN tc) ρ (shp tc cl) 1210 (LV b ρ i) [] σ') : Ex K G (NN tc) ρ (shp tc cl) 223 (LV b ρ i) [] σ := by
  obtain ⟨P, hM, hp⟩ := J_high (l := K.2.1) (G := G) (ρ := ρ) hR (ys_in (xs := xs) (i + 1))
  unfold LV
  refine x_aload_n 224 A.1 dL_law_223 rfl rfl rfl ?_
  refine xl_arg (k := 1) 229 A dL_law_224 dL_law_225 dL_law_226 dL_law_227 dL_law_228 rfl (by omega) hL ?_
  refine x_callV 232 A.1 dL_law_229 rfl hM rfl (lt79 (by decide)) rfl tb_2_217 tb_2_218 tb_2_219 tb_1_1 tb_2_220 (na := 1) (by decide +kernel) rfl ⟨Nat.le_of_ble_eq_true rfl, Nat.le_of_ble_eq_true rfl⟩ rfl (Nat.le_of_ble_eq_true rfl) rfl (fun r σ1 hq hR1 => ?_)
  obtain ⟨z, rfl, P2, hM2, hp2⟩ := hp _ _ hq
  refine x_aload_n 233 A.1 dL_law_232 rfl rfl rfl ?_
  refine xl_arg (k := 1) 238 A dL_law_233 dL_law_234 dL_law_235 dL_law_236 dL_law_237 rfl (by omega) hL ?_
  refine x_callV 241 A.1 dL_law_238 rfl hM2 rfl (lt79 (by decide)) rfl tb_5_77 tb_5_78 tb_5_79 tb_1_20 tb_5_80 (na := 1) (by decide +kernel) rfl ⟨Nat.le_of_ble_eq_true rfl, Nat.le_of_ble_eq_true rfl⟩ rfl (Nat.le_of_ble_eq_true rfl) rfl (fun r2 σ2 hq2 hR2 => ?_)
  obtain ⟨rfl, hRR⟩ := hp2 _ _ hq2
  exact xl_same 1210 A.1 dL_law_241 rfl (kk _ hRR)
theorem lc_thing (A : AL K G "FirstSeenLaw" code 4 2048 84000 (TL b L xs) 0 ρ0 (NN tc) ρ sh1 ca cb) (hR : RR X tc cl σ) (hi : i + 5 < L) (hL : L ≤ 3072) (kk : ∀ σ', RR X tc cl σ' → Ex K G (NN tc) ρ (shp tc cl) 1210 (LV b ρ i) [] σ') : Ex K G (NN tc) ρ (shp tc cl) 246 (LV b ρ i) [] σ := by
  obtain ⟨P, hM, hp⟩ := J_thing (l := K.2.1) (G := G) (ρ := ρ) hR (ys_in (xs := xs) (i + 1)) (ys_in (xs := xs) (i + 2)) (ys_in (xs := xs) (i + 3))
  unfold LV
  refine x_aload_n 247 A.1 dL_law_246 rfl rfl rfl ?_
  refine xl_arg (k := 1) 252 A dL_law_247 dL_law_248 dL_law_249 dL_law_250 dL_law_251 rfl (by omega) hL ?_
  refine xl_arg (k := 2) 257 A dL_law_252 dL_law_253 dL_law_254 dL_law_255 dL_law_256 rfl (by omega) hL ?_
  refine xl_arg (k := 3) 262 A dL_law_257 dL_law_258 dL_law_259 dL_law_260 dL_law_261 rfl (by omega) hL ?_
  refine x_callV 265 A.1 dL_law_262 rfl hM rfl (lt79 (by decide)) rfl tb_2_221 tb_2_222 tb_2_223 tb_1_1 tb_2_224 (na := 3) (by decide +kernel) rfl ⟨Nat.le_of_ble_eq_true rfl, Nat.le_of_ble_eq_true rfl⟩ rfl (Nat.le_of_ble_eq_true rfl) rfl (fun r σ1 hq hR1 => ?_)
  obtain ⟨z, rfl, P2, hM2, hp2⟩ := hp _ _ hq
  refine x_aload_n 266 A.1 dL_law_265 rfl rfl rfl ?_
  refine xl_arg (k := 1) 271 A dL_law_266 dL_law_267 dL_law_268 dL_law_269 dL_law_270 rfl (by omega) hL ?_
  refine xl_arg (k := 2) 276 A dL_law_271 dL_law_272 dL_law_273 dL_law_274 dL_law_275 rfl (by omega) hL ?_
  refine xl_arg (k := 3) 281 A dL_law_276 dL_law_277 dL_law_278 dL_law_279 dL_law_280 rfl (by omega) hL ?_
  refine x_callV 284 A.1 dL_law_281 rfl hM2 rfl (lt79 (by decide)) rfl tb_5_81 tb_5_82 tb_5_83 tb_1_20 tb_5_84 (na := 3) (by decide +kernel) rfl ⟨Nat.le_of_ble_eq_true rfl, Nat.le_of_ble_eq_true rfl⟩ rfl (Nat.le_of_ble_eq_true rfl) rfl (fun r2 σ2 hq2 hR2 => ?_)
  obtain ⟨rfl, hRR⟩ := hp2 _ _ hq2
  exact xl_same 1210 A.1 dL_law_284 rfl (kk _ hRR)
theorem lc_sleeper (A : AL K G "FirstSeenLaw" code 4 2048 84000 (TL b L xs) 0 ρ0 (NN tc) ρ sh1 ca cb) (hR : RR X tc cl σ) (hi : i + 5 < L) (hL : L ≤ 3072) (kk : ∀ σ', RR X tc cl σ' → Ex K G (NN tc) ρ (shp tc cl) 1210 (LV b ρ i) [] σ') : Ex K G (NN tc) ρ (shp tc cl) 289 (LV b ρ i) [] σ := by
  obtain ⟨P, hM, hp⟩ := J_sleeper (l := K.2.1) (G := G) (ρ := ρ) hR (ys_in (xs := xs) (i + 1)) (ys_in (xs := xs) (i + 2)) (ys_in (xs := xs) (i + 3))
  unfold LV
  refine x_aload_n 290 A.1 dL_law_289 rfl rfl rfl ?_
  refine xl_arg (k := 1) 295 A dL_law_290 dL_law_291 dL_law_292 dL_law_293 dL_law_294 rfl (by omega) hL ?_
  refine xl_arg (k := 2) 300 A dL_law_295 dL_law_296 dL_law_297 dL_law_298 dL_law_299 rfl (by omega) hL ?_
  refine xl_arg (k := 3) 305 A dL_law_300 dL_law_301 dL_law_302 dL_law_303 dL_law_304 rfl (by omega) hL ?_
  refine x_callV 308 A.1 dL_law_305 rfl hM rfl (lt79 (by decide)) rfl tb_2_230 tb_2_231 tb_2_232 tb_1_1 tb_2_233 (na := 3) (by decide +kernel) rfl ⟨Nat.le_of_ble_eq_true rfl, Nat.le_of_ble_eq_true rfl⟩ rfl (Nat.le_of_ble_eq_true rfl) rfl (fun r σ1 hq hR1 => ?_)
  obtain ⟨z, rfl, P2, hM2, hp2⟩ := hp _ _ hq
  refine x_aload_n 309 A.1 dL_law_308 rfl rfl rfl ?_
  refine xl_arg (k := 1) 314 A dL_law_309 dL_law_310 dL_law_311 dL_law_312 dL_law_313 rfl (by omega) hL ?_
  refine xl_arg (k := 2) 319 A dL_law_314 dL_law_315 dL_law_316 dL_law_317 dL_law_318 rfl (by omega) hL ?_
  refine xl_arg (k := 3) 324 A dL_law_319 dL_law_320 dL_law_321 dL_law_322 dL_law_323 rfl (by omega) hL ?_
  refine x_callV 327 A.1 dL_law_324 rfl hM2 rfl (lt79 (by decide)) rfl tb_5_87 tb_5_88 tb_5_89 tb_1_20 tb_5_90 (na := 3) (by decide +kernel) rfl ⟨Nat.le_of_ble_eq_true rfl, Nat.le_of_ble_eq_true rfl⟩ rfl (Nat.le_of_ble_eq_true rfl) rfl (fun r2 σ2 hq2 hR2 => ?_)
  obtain ⟨rfl, hRR⟩ := hp2 _ _ hq2
  exact xl_same 1210 A.1 dL_law_327 rfl (kk _ hRR)
theorem lc_set (A : AL K G "FirstSeenLaw" code 4 2048 84000 (TL b L xs) 0 ρ0 (NN tc) ρ sh1 ca cb) (hR : RR X tc cl σ) (hi : i + 5 < L) (hL : L ≤ 3072) (kk : ∀ σ', RR X tc cl σ' → Ex K G (NN tc) ρ (shp tc cl) 1210 (LV b ρ i) [] σ') : Ex K G (NN tc) ρ (shp tc cl) 332 (LV b ρ i) [] σ := by
  obtain ⟨P, hM, hp⟩ := J_set (l := K.2.1) (G := G) (ρ := ρ) hR (ys_in (xs := xs) (i + 1)) (ys_in (xs := xs) (i + 2)) (ys_in (xs := xs) (i + 3))
  unfold LV
  refine x_aload_n 333 A.1 dL_law_332 rfl rfl rfl ?_
  refine xl_arg (k := 1) 338 A dL_law_333 dL_law_334 dL_law_335 dL_law_336 dL_law_337 rfl (by omega) hL ?_
  refine xl_arg (k := 2) 343 A dL_law_338 dL_law_339 dL_law_340 dL_law_341 dL_law_342 rfl (by omega) hL ?_
  refine xl_arg (k := 3) 348 A dL_law_343 dL_law_344 dL_law_345 dL_law_346 dL_law_347 rfl (by omega) hL ?_
  refine x_callV 351 A.1 dL_law_348 rfl hM rfl (lt79 (by decide)) rfl tb_2_234 tb_2_235 tb_2_236 tb_1_1 tb_2_237 (na := 3) (by decide +kernel) rfl ⟨Nat.le_of_ble_eq_true rfl, Nat.le_of_ble_eq_true rfl⟩ rfl (Nat.le_of_ble_eq_true rfl) rfl (fun r σ1 hq hR1 => ?_)
  obtain ⟨z, rfl, P2, hM2, hp2⟩ := hp _ _ hq
  refine x_aload_n 352 A.1 dL_law_351 rfl rfl rfl ?_
  refine xl_arg (k := 1) 357 A dL_law_352 dL_law_353 dL_law_354 dL_law_355 dL_law_356 rfl (by omega) hL ?_
  refine xl_arg (k := 2) 362 A dL_law_357 dL_law_358 dL_law_359 dL_law_360 dL_law_361 rfl (by omega) hL ?_
  refine xl_arg (k := 3) 367 A dL_law_362 dL_law_363 dL_law_364 dL_law_365 dL_law_366 rfl (by omega) hL ?_
  refine x_callV 370 A.1 dL_law_367 rfl hM2 rfl (lt79 (by decide)) rfl tb_5_93 tb_5_94 tb_5_95 tb_1_20 tb_5_96 (na := 3) (by decide +kernel) rfl ⟨Nat.le_of_ble_eq_true rfl, Nat.le_of_ble_eq_true rfl⟩ rfl (Nat.le_of_ble_eq_true rfl) rfl (fun r2 σ2 hq2 hR2 => ?_)
  obtain ⟨rfl, hRR⟩ := hp2 _ _ hq2
  exact xl_same 1210 A.1 dL_law_370 rfl (kk _ hRR)
theorem lc_told (A : AL K G "FirstSeenLaw" code 4 2048 84000 (TL b L xs) 0 ρ0 (NN tc) ρ sh1 ca cb) (hR : RR X tc cl σ) (hi : i + 5 < L) (hL : L ≤ 3072) (kk : ∀ σ', RR X tc cl σ' → Ex K G (NN tc) ρ (shp tc cl) 1210 (LV b ρ i) [] σ') : Ex K G (NN tc) ρ (shp tc cl) 375 (LV b ρ i) [] σ := by
  obtain ⟨P, hM, hp⟩ := J_told (l := K.2.1) (G := G) (ρ := ρ) hR (ys_in (xs := xs) (i + 1)) (ys_in (xs := xs) (i + 2))
  unfold LV
  refine x_aload_n 376 A.1 dL_law_375 rfl rfl rfl ?_
  refine xl_arg (k := 1) 381 A dL_law_376 dL_law_377 dL_law_378 dL_law_379 dL_law_380 rfl (by omega) hL ?_
  refine xl_arg (k := 2) 386 A dL_law_381 dL_law_382 dL_law_383 dL_law_384 dL_law_385 rfl (by omega) hL ?_
  refine x_callV 389 A.1 dL_law_386 rfl hM rfl (lt79 (by decide)) rfl tb_3_7 tb_3_8 tb_3_9 tb_1_1 tb_3_10 (na := 2) (by decide +kernel) rfl ⟨Nat.le_of_ble_eq_true rfl, Nat.le_of_ble_eq_true rfl⟩ rfl (Nat.le_of_ble_eq_true rfl) rfl (fun r σ1 hq hR1 => ?_)
  obtain ⟨z, rfl, P2, hM2, hp2⟩ := hp _ _ hq
  refine x_aload_n 390 A.1 dL_law_389 rfl rfl rfl ?_
  refine xl_arg (k := 1) 395 A dL_law_390 dL_law_391 dL_law_392 dL_law_393 dL_law_394 rfl (by omega) hL ?_
  refine xl_arg (k := 2) 400 A dL_law_395 dL_law_396 dL_law_397 dL_law_398 dL_law_399 rfl (by omega) hL ?_
  refine x_callV 403 A.1 dL_law_400 rfl hM2 rfl (lt79 (by decide)) rfl tb_5_107 tb_5_108 tb_5_109 tb_1_20 tb_5_110 (na := 2) (by decide +kernel) rfl ⟨Nat.le_of_ble_eq_true rfl, Nat.le_of_ble_eq_true rfl⟩ rfl (Nat.le_of_ble_eq_true rfl) rfl (fun r2 σ2 hq2 hR2 => ?_)
  obtain ⟨rfl, hRR⟩ := hp2 _ _ hq2
  exact xl_same 1210 A.1 dL_law_403 rfl (kk _ hRR)
theorem lc_where (A : AL K G "FirstSeenLaw" code 4 2048 84000 (TL b L xs) 0 ρ0 (NN tc) ρ sh1 ca cb) (hR : RR X tc cl σ) (hi : i + 5 < L) (hL : L ≤ 3072) (kk : ∀ σ', RR X tc cl σ' → Ex K G (NN tc) ρ (shp tc cl) 1210 (LV b ρ i) [] σ') : Ex K G (NN tc) ρ (shp tc cl) 408 (LV b ρ i) [] σ := by
  obtain ⟨P, hM, hp⟩ := J_where (l := K.2.1) (G := G) (ρ := ρ) hR (ys_in (xs := xs) (i + 1)) (ys_in (xs := xs) (i + 2))
  unfold LV
  refine x_aload_n 409 A.1 dL_law_408 rfl rfl rfl ?_
  refine xl_arg (k := 1) 414 A dL_law_409 dL_law_410 dL_law_411 dL_law_412 dL_law_413 rfl (by omega) hL ?_
  refine xl_arg (k := 2) 419 A dL_law_414 dL_law_415 dL_law_416 dL_law_417 dL_law_418 rfl (by omega) hL ?_
  refine x_callV 422 A.1 dL_law_419 rfl hM rfl (lt79 (by decide)) rfl tb_3_11 tb_3_12 tb_3_13 tb_1_1 tb_3_14 (na := 2) (by decide +kernel) rfl ⟨Nat.le_of_ble_eq_true rfl, Nat.le_of_ble_eq_true rfl⟩ rfl (Nat.le_of_ble_eq_true rfl) rfl (fun r σ1 hq hR1 => ?_)
  obtain ⟨z, rfl, P2, hM2, hp2⟩ := hp _ _ hq
  refine x_aload_n 423 A.1 dL_law_422 rfl rfl rfl ?_
  refine xl_arg (k := 1) 428 A dL_law_423 dL_law_424 dL_law_425 dL_law_426 dL_law_427 rfl (by omega) hL ?_
  refine xl_arg (k := 2) 433 A dL_law_428 dL_law_429 dL_law_430 dL_law_431 dL_law_432 rfl (by omega) hL ?_
  refine x_callV 436 A.1 dL_law_433 rfl hM2 rfl (lt79 (by decide)) rfl tb_5_112 tb_5_113 tb_5_114 tb_1_20 tb_5_115 (na := 2) (by decide +kernel) rfl ⟨Nat.le_of_ble_eq_true rfl, Nat.le_of_ble_eq_true rfl⟩ rfl (Nat.le_of_ble_eq_true rfl) rfl (fun r2 σ2 hq2 hR2 => ?_)
  obtain ⟨rfl, hRR⟩ := hp2 _ _ hq2
  exact xl_same 1210 A.1 dL_law_436 rfl (kk _ hRR)
theorem lc_feed (A : AL K G "FirstSeenLaw" code 4 2048 84000 (TL b L xs) 0 ρ0 (NN tc) ρ sh1 ca cb) (hR : RR X tc cl σ) (hi : i + 5 < L) (hL : L ≤ 3072) (kk : ∀ σ', RR X tc cl σ' → Ex K G (NN tc) ρ (shp tc cl) 1210 (LV b ρ i) [] σ') : Ex K G (NN tc) ρ (shp tc cl) 441 (LV b ρ i) [] σ := by
  obtain ⟨P, hM, hp⟩ := J_feed (l := K.2.1) (G := G) (ρ := ρ) hR (ys_in (xs := xs) (i + 1))
  unfold LV
  refine x_aload_n 442 A.1 dL_law_441 rfl rfl rfl ?_
  refine xl_arg (k := 1) 447 A dL_law_442 dL_law_443 dL_law_444 dL_law_445 dL_law_446 rfl (by omega) hL ?_
  refine x_callV 450 A.1 dL_law_447 rfl hM rfl (lt79 (by decide)) rfl tb_3_38 tb_3_39 tb_3_40 tb_1_1 tb_3_41 (na := 1) (by decide +kernel) rfl ⟨Nat.le_of_ble_eq_true rfl, Nat.le_of_ble_eq_true rfl⟩ rfl (Nat.le_of_ble_eq_true rfl) rfl (fun r σ1 hq hR1 => ?_)
  obtain ⟨z, rfl, P2, hM2, hp2⟩ := hp _ _ hq
  refine x_aload_n 451 A.1 dL_law_450 rfl rfl rfl ?_
  refine xl_arg (k := 1) 456 A dL_law_451 dL_law_452 dL_law_453 dL_law_454 dL_law_455 rfl (by omega) hL ?_
  refine x_callV 459 A.1 dL_law_456 rfl hM2 rfl (lt79 (by decide)) rfl tb_5_120 tb_5_121 tb_5_122 tb_1_20 tb_5_123 (na := 1) (by decide +kernel) rfl ⟨Nat.le_of_ble_eq_true rfl, Nat.le_of_ble_eq_true rfl⟩ rfl (Nat.le_of_ble_eq_true rfl) rfl (fun r2 σ2 hq2 hR2 => ?_)
  obtain ⟨rfl, hRR⟩ := hp2 _ _ hq2
  exact xl_same 1210 A.1 dL_law_459 rfl (kk _ hRR)
theorem lc_force (A : AL K G "FirstSeenLaw" code 4 2048 84000 (TL b L xs) 0 ρ0 (NN tc) ρ sh1 ca cb) (hR : RR X tc cl σ) (hi : i + 5 < L) (hL : L ≤ 3072) (kk : ∀ σ', RR X tc cl σ' → Ex K G (NN tc) ρ (shp tc cl) 1210 (LV b ρ i) [] σ') : Ex K G (NN tc) ρ (shp tc cl) 477 (LV b ρ i) [] σ := by
  obtain ⟨P, hM, hp⟩ := J_force (l := K.2.1) (G := G) (ρ := ρ) hR (ys_in (xs := xs) (i + 1))
  unfold LV
  refine x_aload_n 478 A.1 dL_law_477 rfl rfl rfl ?_
  refine xl_arg (k := 1) 483 A dL_law_478 dL_law_479 dL_law_480 dL_law_481 dL_law_482 rfl (by omega) hL ?_
  refine x_callV 486 A.1 dL_law_483 rfl hM rfl (lt79 (by decide)) rfl tb_3_46 tb_3_47 tb_3_48 tb_1_1 tb_3_49 (na := 1) (by decide +kernel) rfl ⟨Nat.le_of_ble_eq_true rfl, Nat.le_of_ble_eq_true rfl⟩ rfl (Nat.le_of_ble_eq_true rfl) rfl (fun r σ1 hq hR1 => ?_)
  obtain ⟨z, rfl, P2, hM2, hp2⟩ := hp _ _ hq
  refine x_aload_n 487 A.1 dL_law_486 rfl rfl rfl ?_
  refine xl_arg (k := 1) 492 A dL_law_487 dL_law_488 dL_law_489 dL_law_490 dL_law_491 rfl (by omega) hL ?_
  refine x_callV 495 A.1 dL_law_492 rfl hM2 rfl (lt79 (by decide)) rfl tb_5_200 tb_5_201 tb_5_202 tb_1_20 tb_5_203 (na := 1) (by decide +kernel) rfl ⟨Nat.le_of_ble_eq_true rfl, Nat.le_of_ble_eq_true rfl⟩ rfl (Nat.le_of_ble_eq_true rfl) rfl (fun r2 σ2 hq2 hR2 => ?_)
  obtain ⟨rfl, hRR⟩ := hp2 _ _ hq2
  exact xl_same 1210 A.1 dL_law_495 rfl (kk _ hRR)
theorem lc_seen (A : AL K G "FirstSeenLaw" code 4 2048 84000 (TL b L xs) 0 ρ0 (NN tc) ρ sh1 ca cb) (hR : RR X tc cl σ) (hi : i + 5 < L) (hL : L ≤ 3072) (kk : ∀ σ', RR X tc cl σ' → Ex K G (NN tc) ρ (shp tc cl) 1210 (LV b ρ i) [] σ') : Ex K G (NN tc) ρ (shp tc cl) 500 (LV b ρ i) [] σ := by
  obtain ⟨P, hM, hp⟩ := J_seen (l := K.2.1) (G := G) (ρ := ρ) hR (ys_in (xs := xs) (i + 1)) (ys_in (xs := xs) (i + 2))
  unfold LV
  refine x_aload_n 501 A.1 dL_law_500 rfl rfl rfl ?_
  refine xl_arg (k := 1) 506 A dL_law_501 dL_law_502 dL_law_503 dL_law_504 dL_law_505 rfl (by omega) hL ?_
  refine xl_arg (k := 2) 511 A dL_law_506 dL_law_507 dL_law_508 dL_law_509 dL_law_510 rfl (by omega) hL ?_
  refine x_callV 514 A.1 dL_law_511 rfl hM rfl (lt79 (by decide)) rfl tb_3_50 tb_3_51 tb_3_52 tb_1_1 tb_3_53 (na := 2) (by decide +kernel) rfl ⟨Nat.le_of_ble_eq_true rfl, Nat.le_of_ble_eq_true rfl⟩ rfl (Nat.le_of_ble_eq_true rfl) rfl (fun r σ1 hq hR1 => ?_)
  obtain ⟨z, rfl, P2, hM2, hp2⟩ := hp _ _ hq
  refine x_aload_n 515 A.1 dL_law_514 rfl rfl rfl ?_
  refine xl_arg (k := 1) 520 A dL_law_515 dL_law_516 dL_law_517 dL_law_518 dL_law_519 rfl (by omega) hL ?_
  refine xl_arg (k := 2) 525 A dL_law_520 dL_law_521 dL_law_522 dL_law_523 dL_law_524 rfl (by omega) hL ?_
  refine x_callV 528 A.1 dL_law_525 rfl hM2 rfl (lt79 (by decide)) rfl tb_5_204 tb_5_205 tb_5_206 tb_1_20 tb_5_207 (na := 2) (by decide +kernel) rfl ⟨Nat.le_of_ble_eq_true rfl, Nat.le_of_ble_eq_true rfl⟩ rfl (Nat.le_of_ble_eq_true rfl) rfl (fun r2 σ2 hq2 hR2 => ?_)
  obtain ⟨rfl, hRR⟩ := hp2 _ _ hq2
  exact xl_same 1210 A.1 dL_law_528 rfl (kk _ hRR)
theorem lc_has (A : AL K G "FirstSeenLaw" code 4 2048 84000 (TL b L xs) 0 ρ0 (NN tc) ρ sh1 ca cb) (hR : RR X tc cl σ) (hi : i + 5 < L) (hL : L ≤ 3072) (kk : ∀ σ', RR X tc cl σ' → Ex K G (NN tc) ρ (shp tc cl) 1210 (LV b ρ i) [] σ') : Ex K G (NN tc) ρ (shp tc cl) 533 (LV b ρ i) [] σ := by
  obtain ⟨P, hM, hp⟩ := J_has (l := K.2.1) (G := G) (ρ := ρ) hR (ys_in (xs := xs) (i + 1))
  unfold LV
  refine x_aload_n 534 A.1 dL_law_533 rfl rfl rfl ?_
  refine xl_arg (k := 1) 539 A dL_law_534 dL_law_535 dL_law_536 dL_law_537 dL_law_538 rfl (by omega) hL ?_
  refine x_callV 542 A.1 dL_law_539 rfl hM rfl (lt79 (by decide)) rfl tb_3_152 tb_3_153 tb_3_154 tb_1_1 tb_3_155 (na := 1) (by decide +kernel) rfl ⟨Nat.le_of_ble_eq_true rfl, Nat.le_of_ble_eq_true rfl⟩ rfl (Nat.le_of_ble_eq_true rfl) rfl (fun r σ1 hq hR1 => ?_)
  obtain ⟨z, rfl, P2, hM2, hp2⟩ := hp _ _ hq
  refine x_aload_n 543 A.1 dL_law_542 rfl rfl rfl ?_
  refine xl_arg (k := 1) 548 A dL_law_543 dL_law_544 dL_law_545 dL_law_546 dL_law_547 rfl (by omega) hL ?_
  refine x_callV 551 A.1 dL_law_548 rfl hM2 rfl (lt79 (by decide)) rfl tb_5_230 tb_5_231 tb_5_232 tb_1_20 tb_5_233 (na := 1) (by decide +kernel) rfl ⟨Nat.le_of_ble_eq_true rfl, Nat.le_of_ble_eq_true rfl⟩ rfl (Nat.le_of_ble_eq_true rfl) rfl (fun r2 σ2 hq2 hR2 => ?_)
  obtain ⟨rfl, hRR⟩ := hp2 _ _ hq2
  exact xl_same 1210 A.1 dL_law_551 rfl (kk _ hRR)
theorem lc_whose (A : AL K G "FirstSeenLaw" code 4 2048 84000 (TL b L xs) 0 ρ0 (NN tc) ρ sh1 ca cb) (hR : RR X tc cl σ) (hi : i + 5 < L) (hL : L ≤ 3072) (kk : ∀ σ', RR X tc cl σ' → Ex K G (NN tc) ρ (shp tc cl) 1210 (LV b ρ i) [] σ') : Ex K G (NN tc) ρ (shp tc cl) 556 (LV b ρ i) [] σ := by
  obtain ⟨P, hM, hp⟩ := J_whose (l := K.2.1) (G := G) (ρ := ρ) hR (ys_in (xs := xs) (i + 1))
  unfold LV
  refine x_aload_n 557 A.1 dL_law_556 rfl rfl rfl ?_
  refine xl_arg (k := 1) 562 A dL_law_557 dL_law_558 dL_law_559 dL_law_560 dL_law_561 rfl (by omega) hL ?_
  refine x_callV 565 A.1 dL_law_562 rfl hM rfl (lt79 (by decide)) rfl tb_3_177 tb_3_178 tb_3_179 tb_1_1 tb_3_180 (na := 1) (by decide +kernel) rfl ⟨Nat.le_of_ble_eq_true rfl, Nat.le_of_ble_eq_true rfl⟩ rfl (Nat.le_of_ble_eq_true rfl) rfl (fun r σ1 hq hR1 => ?_)
  obtain ⟨z, rfl, P2, hM2, hp2⟩ := hp _ _ hq
  refine x_aload_n 566 A.1 dL_law_565 rfl rfl rfl ?_
  refine xl_arg (k := 1) 571 A dL_law_566 dL_law_567 dL_law_568 dL_law_569 dL_law_570 rfl (by omega) hL ?_
  refine x_callV 574 A.1 dL_law_571 rfl hM2 rfl (lt79 (by decide)) rfl tb_6_2 tb_6_3 tb_6_4 tb_1_20 tb_6_5 (na := 1) (by decide +kernel) rfl ⟨Nat.le_of_ble_eq_true rfl, Nat.le_of_ble_eq_true rfl⟩ rfl (Nat.le_of_ble_eq_true rfl) rfl (fun r2 σ2 hq2 hR2 => ?_)
  obtain ⟨rfl, hRR⟩ := hp2 _ _ hq2
  exact xl_same 1210 A.1 dL_law_574 rfl (kk _ hRR)
theorem lc_left (A : AL K G "FirstSeenLaw" code 4 2048 84000 (TL b L xs) 0 ρ0 (NN tc) ρ sh1 ca cb) (hR : RR X tc cl σ) (hi : i + 5 < L) (hL : L ≤ 3072) (kk : ∀ σ', RR X tc cl σ' → Ex K G (NN tc) ρ (shp tc cl) 1210 (LV b ρ i) [] σ') : Ex K G (NN tc) ρ (shp tc cl) 579 (LV b ρ i) [] σ := by
  obtain ⟨P, hM, hp⟩ := J_left (l := K.2.1) (G := G) (ρ := ρ) hR (ys_in (xs := xs) (i + 1))
  unfold LV
  refine x_aload_n 580 A.1 dL_law_579 rfl rfl rfl ?_
  refine xl_arg (k := 1) 585 A dL_law_580 dL_law_581 dL_law_582 dL_law_583 dL_law_584 rfl (by omega) hL ?_
  refine x_callV 588 A.1 dL_law_585 rfl hM rfl (lt79 (by decide)) rfl tb_3_181 tb_3_182 tb_3_183 tb_1_1 tb_3_184 (na := 1) (by decide +kernel) rfl ⟨Nat.le_of_ble_eq_true rfl, Nat.le_of_ble_eq_true rfl⟩ rfl (Nat.le_of_ble_eq_true rfl) rfl (fun r σ1 hq hR1 => ?_)
  obtain ⟨z, rfl, P2, hM2, hp2⟩ := hp _ _ hq
  refine x_aload_n 589 A.1 dL_law_588 rfl rfl rfl ?_
  refine xl_arg (k := 1) 594 A dL_law_589 dL_law_590 dL_law_591 dL_law_592 dL_law_593 rfl (by omega) hL ?_
  refine x_callV 597 A.1 dL_law_594 rfl hM2 rfl (lt79 (by decide)) rfl tb_6_6 tb_6_7 tb_6_8 tb_1_20 tb_6_9 (na := 1) (by decide +kernel) rfl ⟨Nat.le_of_ble_eq_true rfl, Nat.le_of_ble_eq_true rfl⟩ rfl (Nat.le_of_ble_eq_true rfl) rfl (fun r2 σ2 hq2 hR2 => ?_)
  obtain ⟨rfl, hRR⟩ := hp2 _ _ hq2
  exact xl_same 1210 A.1 dL_law_597 rfl (kk _ hRR)
theorem lc_best (A : AL K G "FirstSeenLaw" code 4 2048 84000 (TL b L xs) 0 ρ0 (NN tc) ρ sh1 ca cb) (hR : RR X tc cl σ) (hi : i + 5 < L) (hL : L ≤ 3072) (kk : ∀ σ', RR X tc cl σ' → Ex K G (NN tc) ρ (shp tc cl) 1210 (LV b ρ i) [] σ') : Ex K G (NN tc) ρ (shp tc cl) 602 (LV b ρ i) [] σ := by
  obtain ⟨P, hM, hp⟩ := J_best (l := K.2.1) (G := G) (ρ := ρ) hR (ys_in (xs := xs) (i + 1)) (ys_in (xs := xs) (i + 2)) (ys_in (xs := xs) (i + 3))
  unfold LV
  refine x_aload_n 603 A.1 dL_law_602 rfl rfl rfl ?_
  refine xl_arg (k := 1) 608 A dL_law_603 dL_law_604 dL_law_605 dL_law_606 dL_law_607 rfl (by omega) hL ?_
  refine xl_arg (k := 2) 613 A dL_law_608 dL_law_609 dL_law_610 dL_law_611 dL_law_612 rfl (by omega) hL ?_
  refine xl_arg (k := 3) 618 A dL_law_613 dL_law_614 dL_law_615 dL_law_616 dL_law_617 rfl (by omega) hL ?_
  refine x_callV 621 A.1 dL_law_618 rfl hM rfl (lt79 (by decide)) rfl tb_3_202 tb_3_203 tb_3_204 tb_1_1 tb_3_205 (na := 3) (by decide +kernel) rfl ⟨Nat.le_of_ble_eq_true rfl, Nat.le_of_ble_eq_true rfl⟩ rfl (Nat.le_of_ble_eq_true rfl) rfl (fun r σ1 hq hR1 => ?_)
  obtain ⟨z, rfl, P2, hM2, hp2⟩ := hp _ _ hq
  refine x_aload_n 622 A.1 dL_law_621 rfl rfl rfl ?_
  refine xl_arg (k := 1) 627 A dL_law_622 dL_law_623 dL_law_624 dL_law_625 dL_law_626 rfl (by omega) hL ?_
  refine xl_arg (k := 2) 632 A dL_law_627 dL_law_628 dL_law_629 dL_law_630 dL_law_631 rfl (by omega) hL ?_
  refine xl_arg (k := 3) 637 A dL_law_632 dL_law_633 dL_law_634 dL_law_635 dL_law_636 rfl (by omega) hL ?_
  refine x_callV 640 A.1 dL_law_637 rfl hM2 rfl (lt79 (by decide)) rfl tb_6_26 tb_6_27 tb_6_28 tb_1_20 tb_6_29 (na := 3) (by decide +kernel) rfl ⟨Nat.le_of_ble_eq_true rfl, Nat.le_of_ble_eq_true rfl⟩ rfl (Nat.le_of_ble_eq_true rfl) rfl (fun r2 σ2 hq2 hR2 => ?_)
  obtain ⟨rfl, hRR⟩ := hp2 _ _ hq2
  exact xl_same 1210 A.1 dL_law_640 rfl (kk _ hRR)
theorem lc_turn (A : AL K G "FirstSeenLaw" code 4 2048 84000 (TL b L xs) 0 ρ0 (NN tc) ρ sh1 ca cb) (hR : RR X tc cl σ) (hi : i + 5 < L) (hL : L ≤ 3072) (kk : ∀ σ', RR X tc cl σ' → Ex K G (NN tc) ρ (shp tc cl) 1210 (LV b ρ i) [] σ') : Ex K G (NN tc) ρ (shp tc cl) 645 (LV b ρ i) [] σ := by
  obtain ⟨P, hM, hp⟩ := J_turn (l := K.2.1) (G := G) (ρ := ρ) hR (ys_in (xs := xs) (i + 1))
  unfold LV
  refine x_aload_n 646 A.1 dL_law_645 rfl rfl rfl ?_
  refine xl_arg (k := 1) 651 A dL_law_646 dL_law_647 dL_law_648 dL_law_649 dL_law_650 rfl (by omega) hL ?_
  refine x_callV 654 A.1 dL_law_651 rfl hM rfl (lt79 (by decide)) rfl tb_3_219 tb_3_220 tb_3_221 tb_1_1 tb_3_222 (na := 1) (by decide +kernel) rfl ⟨Nat.le_of_ble_eq_true rfl, Nat.le_of_ble_eq_true rfl⟩ rfl (Nat.le_of_ble_eq_true rfl) rfl (fun r σ1 hq hR1 => ?_)
  obtain ⟨z, rfl, P2, hM2, hp2⟩ := hp _ _ hq
  refine x_aload_n 655 A.1 dL_law_654 rfl rfl rfl ?_
  refine xl_arg (k := 1) 660 A dL_law_655 dL_law_656 dL_law_657 dL_law_658 dL_law_659 rfl (by omega) hL ?_
  refine x_callV 663 A.1 dL_law_660 rfl hM2 rfl (lt79 (by decide)) rfl tb_6_35 tb_6_36 tb_6_37 tb_1_20 tb_6_38 (na := 1) (by decide +kernel) rfl ⟨Nat.le_of_ble_eq_true rfl, Nat.le_of_ble_eq_true rfl⟩ rfl (Nat.le_of_ble_eq_true rfl) rfl (fun r2 σ2 hq2 hR2 => ?_)
  obtain ⟨rfl, hRR⟩ := hp2 _ _ hq2
  exact xl_same 1210 A.1 dL_law_663 rfl (kk _ hRR)
theorem lc_rest (A : AL K G "FirstSeenLaw" code 4 2048 84000 (TL b L xs) 0 ρ0 (NN tc) ρ sh1 ca cb) (hR : RR X tc cl σ) (hi : i + 5 < L) (hL : L ≤ 3072) (kk : ∀ σ', RR X tc cl σ' → Ex K G (NN tc) ρ (shp tc cl) 1210 (LV b ρ i) [] σ') : Ex K G (NN tc) ρ (shp tc cl) 668 (LV b ρ i) [] σ := by
  obtain ⟨P, hM, hp⟩ := J_rest (l := K.2.1) (G := G) (ρ := ρ) hR 
  unfold LV
  refine x_aload_n 669 A.1 dL_law_668 rfl rfl rfl ?_
  refine x_callV 672 A.1 dL_law_669 rfl hM rfl (lt79 (by decide)) rfl tb_3_223 tb_3_224 tb_3_225 tb_1_1 tb_3_226 (na := 0) (by decide +kernel) rfl ⟨Nat.le_of_ble_eq_true rfl, Nat.le_of_ble_eq_true rfl⟩ rfl (Nat.le_of_ble_eq_true rfl) rfl (fun r σ1 hq hR1 => ?_)
  obtain ⟨z, rfl, P2, hM2, hp2⟩ := hp _ _ hq
  refine x_aload_n 673 A.1 dL_law_672 rfl rfl rfl ?_
  refine x_callV 676 A.1 dL_law_673 rfl hM2 rfl (lt79 (by decide)) rfl tb_6_39 tb_6_40 tb_6_41 tb_1_20 tb_6_42 (na := 0) (by decide +kernel) rfl ⟨Nat.le_of_ble_eq_true rfl, Nat.le_of_ble_eq_true rfl⟩ rfl (Nat.le_of_ble_eq_true rfl) rfl (fun r2 σ2 hq2 hR2 => ?_)
  obtain ⟨rfl, hRR⟩ := hp2 _ _ hq2
  exact xl_same 1210 A.1 dL_law_676 rfl (kk _ hRR)
theorem lc_beds (A : AL K G "FirstSeenLaw" code 4 2048 84000 (TL b L xs) 0 ρ0 (NN tc) ρ sh1 ca cb) (hR : RR X tc cl σ) (hi : i + 5 < L) (hL : L ≤ 3072) (kk : ∀ σ', RR X tc cl σ' → Ex K G (NN tc) ρ (shp tc cl) 1210 (LV b ρ i) [] σ') : Ex K G (NN tc) ρ (shp tc cl) 681 (LV b ρ i) [] σ := by
  obtain ⟨P, hM, hp⟩ := J_beds (l := K.2.1) (G := G) (ρ := ρ) hR (ys_in (xs := xs) (i + 1))
  unfold LV
  refine x_aload_n 682 A.1 dL_law_681 rfl rfl rfl ?_
  refine xl_arg (k := 1) 687 A dL_law_682 dL_law_683 dL_law_684 dL_law_685 dL_law_686 rfl (by omega) hL ?_
  refine x_callV 690 A.1 dL_law_687 rfl hM rfl (lt79 (by decide)) rfl tb_3_227 tb_3_228 tb_3_229 tb_1_1 tb_3_230 (na := 1) (by decide +kernel) rfl ⟨Nat.le_of_ble_eq_true rfl, Nat.le_of_ble_eq_true rfl⟩ rfl (Nat.le_of_ble_eq_true rfl) rfl (fun r σ1 hq hR1 => ?_)
  obtain ⟨z, rfl, P2, hM2, hp2⟩ := hp _ _ hq
  refine x_aload_n 691 A.1 dL_law_690 rfl rfl rfl ?_
  refine xl_arg (k := 1) 696 A dL_law_691 dL_law_692 dL_law_693 dL_law_694 dL_law_695 rfl (by omega) hL ?_
  refine x_callV 699 A.1 dL_law_696 rfl hM2 rfl (lt79 (by decide)) rfl tb_6_43 tb_6_44 tb_6_45 tb_1_20 tb_6_46 (na := 1) (by decide +kernel) rfl ⟨Nat.le_of_ble_eq_true rfl, Nat.le_of_ble_eq_true rfl⟩ rfl (Nat.le_of_ble_eq_true rfl) rfl (fun r2 σ2 hq2 hR2 => ?_)
  obtain ⟨rfl, hRR⟩ := hp2 _ _ hq2
  exact xl_same 1210 A.1 dL_law_699 rfl (kk _ hRR)
theorem lc_wall (A : AL K G "FirstSeenLaw" code 4 2048 84000 (TL b L xs) 0 ρ0 (NN tc) ρ sh1 ca cb) (hR : RR X tc cl σ) (hi : i + 5 < L) (hL : L ≤ 3072) (kk : ∀ σ', RR X tc cl σ' → Ex K G (NN tc) ρ (shp tc cl) 1210 (LV b ρ i) [] σ') : Ex K G (NN tc) ρ (shp tc cl) 704 (LV b ρ i) [] σ := by
  obtain ⟨P, hM, hp⟩ := J_wall (l := K.2.1) (G := G) (ρ := ρ) hR (ys_in (xs := xs) (i + 1)) (ys_in (xs := xs) (i + 2))
  unfold LV
  refine x_aload_n 705 A.1 dL_law_704 rfl rfl rfl ?_
  refine xl_arg (k := 1) 710 A dL_law_705 dL_law_706 dL_law_707 dL_law_708 dL_law_709 rfl (by omega) hL ?_
  refine xl_arg (k := 2) 715 A dL_law_710 dL_law_711 dL_law_712 dL_law_713 dL_law_714 rfl (by omega) hL ?_
  refine x_callV 718 A.1 dL_law_715 rfl hM rfl (lt79 (by decide)) rfl tb_4_11 tb_4_12 tb_4_13 tb_1_1 tb_4_14 (na := 2) (by decide +kernel) rfl ⟨Nat.le_of_ble_eq_true rfl, Nat.le_of_ble_eq_true rfl⟩ rfl (Nat.le_of_ble_eq_true rfl) rfl (fun r σ1 hq hR1 => ?_)
  obtain ⟨z, rfl, P2, hM2, hp2⟩ := hp _ _ hq
  refine x_aload_n 719 A.1 dL_law_718 rfl rfl rfl ?_
  refine xl_arg (k := 1) 724 A dL_law_719 dL_law_720 dL_law_721 dL_law_722 dL_law_723 rfl (by omega) hL ?_
  refine xl_arg (k := 2) 729 A dL_law_724 dL_law_725 dL_law_726 dL_law_727 dL_law_728 rfl (by omega) hL ?_
  refine x_callV 732 A.1 dL_law_729 rfl hM2 rfl (lt79 (by decide)) rfl tb_6_47 tb_6_48 tb_6_49 tb_1_20 tb_6_50 (na := 2) (by decide +kernel) rfl ⟨Nat.le_of_ble_eq_true rfl, Nat.le_of_ble_eq_true rfl⟩ rfl (Nat.le_of_ble_eq_true rfl) rfl (fun r2 σ2 hq2 hR2 => ?_)
  obtain ⟨rfl, hRR⟩ := hp2 _ _ hq2
  exact xl_same 1210 A.1 dL_law_732 rfl (kk _ hRR)
theorem lc_fell (A : AL K G "FirstSeenLaw" code 4 2048 84000 (TL b L xs) 0 ρ0 (NN tc) ρ sh1 ca cb) (hR : RR X tc cl σ) (hi : i + 5 < L) (hL : L ≤ 3072) (kk : ∀ σ', RR X tc cl σ' → Ex K G (NN tc) ρ (shp tc cl) 1210 (LV b ρ i) [] σ') : Ex K G (NN tc) ρ (shp tc cl) 737 (LV b ρ i) [] σ := by
  obtain ⟨P, hM, hp⟩ := J_fell (l := K.2.1) (G := G) (ρ := ρ) hR (ys_in (xs := xs) (i + 1))
  unfold LV
  refine x_aload_n 738 A.1 dL_law_737 rfl rfl rfl ?_
  refine xl_arg (k := 1) 743 A dL_law_738 dL_law_739 dL_law_740 dL_law_741 dL_law_742 rfl (by omega) hL ?_
  refine x_callV 746 A.1 dL_law_743 rfl hM rfl (lt79 (by decide)) rfl tb_4_19 tb_4_20 tb_4_21 tb_1_1 tb_4_22 (na := 1) (by decide +kernel) rfl ⟨Nat.le_of_ble_eq_true rfl, Nat.le_of_ble_eq_true rfl⟩ rfl (Nat.le_of_ble_eq_true rfl) rfl (fun r σ1 hq hR1 => ?_)
  obtain ⟨z, rfl, P2, hM2, hp2⟩ := hp _ _ hq
  refine x_aload_n 747 A.1 dL_law_746 rfl rfl rfl ?_
  refine xl_arg (k := 1) 752 A dL_law_747 dL_law_748 dL_law_749 dL_law_750 dL_law_751 rfl (by omega) hL ?_
  refine x_callV 755 A.1 dL_law_752 rfl hM2 rfl (lt79 (by decide)) rfl tb_6_51 tb_6_52 tb_6_53 tb_1_20 tb_6_54 (na := 1) (by decide +kernel) rfl ⟨Nat.le_of_ble_eq_true rfl, Nat.le_of_ble_eq_true rfl⟩ rfl (Nat.le_of_ble_eq_true rfl) rfl (fun r2 σ2 hq2 hR2 => ?_)
  obtain ⟨rfl, hRR⟩ := hp2 _ _ hq2
  exact xl_same 1210 A.1 dL_law_755 rfl (kk _ hRR)
theorem lc_turned (A : AL K G "FirstSeenLaw" code 4 2048 84000 (TL b L xs) 0 ρ0 (NN tc) ρ sh1 ca cb) (hR : RR X tc cl σ) (hi : i + 5 < L) (hL : L ≤ 3072) (kk : ∀ σ', RR X tc cl σ' → Ex K G (NN tc) ρ (shp tc cl) 1210 (LV b ρ i) [] σ') : Ex K G (NN tc) ρ (shp tc cl) 760 (LV b ρ i) [] σ := by
  obtain ⟨P, hM, hp⟩ := J_turned (l := K.2.1) (G := G) (ρ := ρ) hR (ys_in (xs := xs) (i + 1)) (ys_in (xs := xs) (i + 2))
  unfold LV
  refine x_aload_n 761 A.1 dL_law_760 rfl rfl rfl ?_
  refine xl_arg (k := 1) 766 A dL_law_761 dL_law_762 dL_law_763 dL_law_764 dL_law_765 rfl (by omega) hL ?_
  refine xl_arg (k := 2) 771 A dL_law_766 dL_law_767 dL_law_768 dL_law_769 dL_law_770 rfl (by omega) hL ?_
  refine x_callV 774 A.1 dL_law_771 rfl hM rfl (lt79 (by decide)) rfl tb_4_23 tb_4_24 tb_4_25 tb_1_1 tb_4_26 (na := 2) (by decide +kernel) rfl ⟨Nat.le_of_ble_eq_true rfl, Nat.le_of_ble_eq_true rfl⟩ rfl (Nat.le_of_ble_eq_true rfl) rfl (fun r σ1 hq hR1 => ?_)
  obtain ⟨z, rfl, P2, hM2, hp2⟩ := hp _ _ hq
  refine x_aload_n 775 A.1 dL_law_774 rfl rfl rfl ?_
  refine xl_arg (k := 1) 780 A dL_law_775 dL_law_776 dL_law_777 dL_law_778 dL_law_779 rfl (by omega) hL ?_
  refine xl_arg (k := 2) 785 A dL_law_780 dL_law_781 dL_law_782 dL_law_783 dL_law_784 rfl (by omega) hL ?_
  refine x_callV 788 A.1 dL_law_785 rfl hM2 rfl (lt79 (by decide)) rfl tb_6_55 tb_6_56 tb_6_57 tb_1_20 tb_6_58 (na := 2) (by decide +kernel) rfl ⟨Nat.le_of_ble_eq_true rfl, Nat.le_of_ble_eq_true rfl⟩ rfl (Nat.le_of_ble_eq_true rfl) rfl (fun r2 σ2 hq2 hR2 => ?_)
  obtain ⟨rfl, hRR⟩ := hp2 _ _ hq2
  exact xl_same 1210 A.1 dL_law_788 rfl (kk _ hRR)
theorem lc_woke (A : AL K G "FirstSeenLaw" code 4 2048 84000 (TL b L xs) 0 ρ0 (NN tc) ρ sh1 ca cb) (hR : RR X tc cl σ) (hi : i + 5 < L) (hL : L ≤ 3072) (kk : ∀ σ', RR X tc cl σ' → Ex K G (NN tc) ρ (shp tc cl) 1210 (LV b ρ i) [] σ') : Ex K G (NN tc) ρ (shp tc cl) 793 (LV b ρ i) [] σ := by
  obtain ⟨P, hM, hp⟩ := J_woke (l := K.2.1) (G := G) (ρ := ρ) hR (ys_in (xs := xs) (i + 1)) (ys_in (xs := xs) (i + 2))
  unfold LV
  refine x_aload_n 794 A.1 dL_law_793 rfl rfl rfl ?_
  refine xl_arg (k := 1) 799 A dL_law_794 dL_law_795 dL_law_796 dL_law_797 dL_law_798 rfl (by omega) hL ?_
  refine xl_arg (k := 2) 804 A dL_law_799 dL_law_800 dL_law_801 dL_law_802 dL_law_803 rfl (by omega) hL ?_
  refine x_callV 807 A.1 dL_law_804 rfl hM rfl (lt79 (by decide)) rfl tb_4_42 tb_4_43 tb_4_44 tb_1_1 tb_4_45 (na := 2) (by decide +kernel) rfl ⟨Nat.le_of_ble_eq_true rfl, Nat.le_of_ble_eq_true rfl⟩ rfl (Nat.le_of_ble_eq_true rfl) rfl (fun r σ1 hq hR1 => ?_)
  obtain ⟨z, rfl, P2, hM2, hp2⟩ := hp _ _ hq
  refine x_aload_n 808 A.1 dL_law_807 rfl rfl rfl ?_
  refine xl_arg (k := 1) 813 A dL_law_808 dL_law_809 dL_law_810 dL_law_811 dL_law_812 rfl (by omega) hL ?_
  refine xl_arg (k := 2) 818 A dL_law_813 dL_law_814 dL_law_815 dL_law_816 dL_law_817 rfl (by omega) hL ?_
  refine x_callV 821 A.1 dL_law_818 rfl hM2 rfl (lt79 (by decide)) rfl tb_6_70 tb_6_71 tb_6_72 tb_1_20 tb_6_73 (na := 2) (by decide +kernel) rfl ⟨Nat.le_of_ble_eq_true rfl, Nat.le_of_ble_eq_true rfl⟩ rfl (Nat.le_of_ble_eq_true rfl) rfl (fun r2 σ2 hq2 hR2 => ?_)
  obtain ⟨rfl, hRR⟩ := hp2 _ _ hq2
  exact xl_same 1210 A.1 dL_law_821 rfl (kk _ hRR)
theorem lc_judge (A : AL K G "FirstSeenLaw" code 4 2048 84000 (TL b L xs) 0 ρ0 (NN tc) ρ sh1 ca cb) (hR : RR X tc cl σ) (hi : i + 5 < L) (hL : L ≤ 3072) (kk : ∀ σ', RR X tc cl σ' → Ex K G (NN tc) ρ (shp tc cl) 1210 (LV b ρ i) [] σ') : Ex K G (NN tc) ρ (shp tc cl) 826 (LV b ρ i) [] σ := by
  obtain ⟨P, hM, hp⟩ := J_judge (l := K.2.1) (G := G) (ρ := ρ) hR (ys_in (xs := xs) (i + 1))
  unfold LV
  refine x_aload_n 827 A.1 dL_law_826 rfl rfl rfl ?_
  refine xl_arg (k := 1) 832 A dL_law_827 dL_law_828 dL_law_829 dL_law_830 dL_law_831 rfl (by omega) hL ?_
  refine x_callV 835 A.1 dL_law_832 rfl hM rfl (lt79 (by decide)) rfl tb_4_46 tb_4_47 tb_4_48 tb_1_1 tb_4_49 (na := 1) (by decide +kernel) rfl ⟨Nat.le_of_ble_eq_true rfl, Nat.le_of_ble_eq_true rfl⟩ rfl (Nat.le_of_ble_eq_true rfl) rfl (fun r σ1 hq hR1 => ?_)
  obtain ⟨z, rfl, P2, hM2, hp2⟩ := hp _ _ hq
  refine x_aload_n 836 A.1 dL_law_835 rfl rfl rfl ?_
  refine xl_arg (k := 1) 841 A dL_law_836 dL_law_837 dL_law_838 dL_law_839 dL_law_840 rfl (by omega) hL ?_
  refine x_callV 844 A.1 dL_law_841 rfl hM2 rfl (lt79 (by decide)) rfl tb_6_74 tb_6_75 tb_6_76 tb_1_20 tb_6_77 (na := 1) (by decide +kernel) rfl ⟨Nat.le_of_ble_eq_true rfl, Nat.le_of_ble_eq_true rfl⟩ rfl (Nat.le_of_ble_eq_true rfl) rfl (fun r2 σ2 hq2 hR2 => ?_)
  obtain ⟨rfl, hRR⟩ := hp2 _ _ hq2
  exact xl_same 1210 A.1 dL_law_844 rfl (kk _ hRR)
theorem lc_drawn (A : AL K G "FirstSeenLaw" code 4 2048 84000 (TL b L xs) 0 ρ0 (NN tc) ρ sh1 ca cb) (hR : RR X tc cl σ) (hi : i + 5 < L) (hL : L ≤ 3072) (kk : ∀ σ', RR X tc cl σ' → Ex K G (NN tc) ρ (shp tc cl) 1210 (LV b ρ i) [] σ') : Ex K G (NN tc) ρ (shp tc cl) 849 (LV b ρ i) [] σ := by
  obtain ⟨P, hM, hp⟩ := J_drawn (l := K.2.1) (G := G) (ρ := ρ) hR (ys_in (xs := xs) (i + 1))
  unfold LV
  refine x_aload_n 850 A.1 dL_law_849 rfl rfl rfl ?_
  refine xl_arg (k := 1) 855 A dL_law_850 dL_law_851 dL_law_852 dL_law_853 dL_law_854 rfl (by omega) hL ?_
  refine x_callV 858 A.1 dL_law_855 rfl hM rfl (lt79 (by decide)) rfl tb_4_50 tb_4_51 tb_4_52 tb_1_1 tb_4_53 (na := 1) (by decide +kernel) rfl ⟨Nat.le_of_ble_eq_true rfl, Nat.le_of_ble_eq_true rfl⟩ rfl (Nat.le_of_ble_eq_true rfl) rfl (fun r σ1 hq hR1 => ?_)
  obtain ⟨z, rfl, P2, hM2, hp2⟩ := hp _ _ hq
  refine x_aload_n 859 A.1 dL_law_858 rfl rfl rfl ?_
  refine xl_arg (k := 1) 864 A dL_law_859 dL_law_860 dL_law_861 dL_law_862 dL_law_863 rfl (by omega) hL ?_
  refine x_callV 867 A.1 dL_law_864 rfl hM2 rfl (lt79 (by decide)) rfl tb_6_78 tb_6_79 tb_6_80 tb_1_20 tb_6_81 (na := 1) (by decide +kernel) rfl ⟨Nat.le_of_ble_eq_true rfl, Nat.le_of_ble_eq_true rfl⟩ rfl (Nat.le_of_ble_eq_true rfl) rfl (fun r2 σ2 hq2 hR2 => ?_)
  obtain ⟨rfl, hRR⟩ := hp2 _ _ hq2
  exact xl_same 1210 A.1 dL_law_867 rfl (kk _ hRR)
theorem lc_chance (A : AL K G "FirstSeenLaw" code 4 2048 84000 (TL b L xs) 0 ρ0 (NN tc) ρ sh1 ca cb) (hR : RR X tc cl σ) (hi : i + 5 < L) (hL : L ≤ 3072) (kk : ∀ σ', RR X tc cl σ' → Ex K G (NN tc) ρ (shp tc cl) 1210 (LV b ρ i) [] σ') : Ex K G (NN tc) ρ (shp tc cl) 872 (LV b ρ i) [] σ := by
  obtain ⟨P, hM, hp⟩ := J_chance (l := K.2.1) (G := G) (ρ := ρ) hR (ys_in (xs := xs) (i + 1)) (ys_in (xs := xs) (i + 2)) (ys_in (xs := xs) (i + 3)) (ys_in (xs := xs) (i + 4))
  unfold LV
  refine x_aload_n 873 A.1 dL_law_872 rfl rfl rfl ?_
  refine xl_arg (k := 1) 878 A dL_law_873 dL_law_874 dL_law_875 dL_law_876 dL_law_877 rfl (by omega) hL ?_
  refine xl_arg (k := 2) 883 A dL_law_878 dL_law_879 dL_law_880 dL_law_881 dL_law_882 rfl (by omega) hL ?_
  refine xl_arg (k := 3) 888 A dL_law_883 dL_law_884 dL_law_885 dL_law_886 dL_law_887 rfl (by omega) hL ?_
  refine xl_arg (k := 4) 893 A dL_law_888 dL_law_889 dL_law_890 dL_law_891 dL_law_892 rfl (by omega) hL ?_
  refine x_callV 896 A.1 dL_law_893 rfl hM rfl (lt79 (by decide)) rfl tb_4_58 tb_4_59 tb_4_60 tb_1_1 tb_4_61 (na := 4) (by decide +kernel) rfl ⟨Nat.le_of_ble_eq_true rfl, Nat.le_of_ble_eq_true rfl⟩ rfl (Nat.le_of_ble_eq_true rfl) rfl (fun r σ1 hq hR1 => ?_)
  obtain ⟨z, rfl, P2, hM2, hp2⟩ := hp _ _ hq
  refine x_aload_n 897 A.1 dL_law_896 rfl rfl rfl ?_
  refine xl_arg (k := 1) 902 A dL_law_897 dL_law_898 dL_law_899 dL_law_900 dL_law_901 rfl (by omega) hL ?_
  refine xl_arg (k := 2) 907 A dL_law_902 dL_law_903 dL_law_904 dL_law_905 dL_law_906 rfl (by omega) hL ?_
  refine xl_arg (k := 3) 912 A dL_law_907 dL_law_908 dL_law_909 dL_law_910 dL_law_911 rfl (by omega) hL ?_
  refine xl_arg (k := 4) 917 A dL_law_912 dL_law_913 dL_law_914 dL_law_915 dL_law_916 rfl (by omega) hL ?_
  refine x_callV 920 A.1 dL_law_917 rfl hM2 rfl (lt79 (by decide)) rfl tb_6_83 tb_6_84 tb_6_85 tb_1_20 tb_6_86 (na := 4) (by decide +kernel) rfl ⟨Nat.le_of_ble_eq_true rfl, Nat.le_of_ble_eq_true rfl⟩ rfl (Nat.le_of_ble_eq_true rfl) rfl (fun r2 σ2 hq2 hR2 => ?_)
  obtain ⟨rfl, hRR⟩ := hp2 _ _ hq2
  refine xl_lsame 921 A.1 dL_law_920 rfl ?_
  exact x_if_eq 1210 924 A.1 dL_law_921 rfl rfl (by omega) (fun _ => kk _ hRR) (fun h => absurd rfl h)
theorem lc_image (A : AL K G "FirstSeenLaw" code 4 2048 84000 (TL b L xs) 0 ρ0 (NN tc) ρ sh1 ca cb) (hR : RR X tc cl σ) (hi : i + 5 < L) (hL : L ≤ 3072) (kk : ∀ σ', RR X tc cl σ' → Ex K G (NN tc) ρ (shp tc cl) 1210 (LV b ρ i) [] σ') : Ex K G (NN tc) ρ (shp tc cl) 926 (LV b ρ i) [] σ := by
  obtain ⟨P, hM, hp⟩ := J_image (l := K.2.1) (G := G) (ρ := ρ) hR 
  unfold LV
  refine x_aload_n 927 A.1 dL_law_926 rfl rfl rfl ?_
  refine x_callV 930 A.1 dL_law_927 rfl hM rfl (lt79 (by decide)) rfl tb_4_66 tb_4_67 tb_4_68 tb_1_1 tb_4_69 (na := 0) (by decide +kernel) rfl ⟨Nat.le_of_ble_eq_true rfl, Nat.le_of_ble_eq_true rfl⟩ rfl (Nat.le_of_ble_eq_true rfl) rfl (fun r σ1 hq hR1 => ?_)
  obtain ⟨z, rfl, P2, hM2, hp2⟩ := hp _ _ hq
  refine x_aload_n 931 A.1 dL_law_930 rfl rfl rfl ?_
  refine x_callV 934 A.1 dL_law_931 rfl hM2 rfl (lt79 (by decide)) rfl tb_6_89 tb_6_90 tb_6_91 tb_1_20 tb_6_92 (na := 0) (by decide +kernel) rfl ⟨Nat.le_of_ble_eq_true rfl, Nat.le_of_ble_eq_true rfl⟩ rfl (Nat.le_of_ble_eq_true rfl) rfl (fun r2 σ2 hq2 hR2 => ?_)
  obtain ⟨rfl, hRR⟩ := hp2 _ _ hq2
  exact xl_same 1210 A.1 dL_law_934 rfl (kk _ hRR)
theorem lc_back (A : AL K G "FirstSeenLaw" code 4 2048 84000 (TL b L xs) 0 ρ0 (NN tc) ρ sh1 ca cb) (hR : RR X tc cl σ) (hi : i + 5 < L) (hL : L ≤ 3072) (kk : ∀ σ', RR X tc cl σ' → Ex K G (NN tc) ρ (shp tc cl) 1210 (LV b ρ i) [] σ') : Ex K G (NN tc) ρ (shp tc cl) 939 (LV b ρ i) [] σ := by
  obtain ⟨P, hM, hp⟩ := J_back (l := K.2.1) (G := G) (ρ := ρ) hR 
  unfold LV
  refine x_aload_n 940 A.1 dL_law_939 rfl rfl rfl ?_
  refine x_callV 943 A.1 dL_law_940 rfl hM rfl (lt79 (by decide)) rfl tb_4_76 tb_4_77 tb_4_78 tb_1_1 tb_4_79 (na := 0) (by decide +kernel) rfl ⟨Nat.le_of_ble_eq_true rfl, Nat.le_of_ble_eq_true rfl⟩ rfl (Nat.le_of_ble_eq_true rfl) rfl (fun r σ1 hq hR1 => ?_)
  obtain ⟨z, rfl, P2, hM2, hp2⟩ := hp _ _ hq
  refine x_aload_n 944 A.1 dL_law_943 rfl rfl rfl ?_
  refine x_callV 947 A.1 dL_law_944 rfl hM2 rfl (lt79 (by decide)) rfl tb_6_93 tb_6_94 tb_6_95 tb_1_20 tb_6_96 (na := 0) (by decide +kernel) rfl ⟨Nat.le_of_ble_eq_true rfl, Nat.le_of_ble_eq_true rfl⟩ rfl (Nat.le_of_ble_eq_true rfl) rfl (fun r2 σ2 hq2 hR2 => ?_)
  obtain ⟨rfl, hRR⟩ := hp2 _ _ hq2
  exact xl_same 1210 A.1 dL_law_947 rfl (kk _ hRR)
theorem lc_count (A : AL K G "FirstSeenLaw" code 4 2048 84000 (TL b L xs) 0 ρ0 (NN tc) ρ sh1 ca cb) (hR : RR X tc cl σ) (hi : i + 5 < L) (hL : L ≤ 3072) (kk : ∀ σ', RR X tc cl σ' → Ex K G (NN tc) ρ (shp tc cl) 1210 (LV b ρ i) [] σ') : Ex K G (NN tc) ρ (shp tc cl) 952 (LV b ρ i) [] σ := by
  obtain ⟨P, hM, hp⟩ := J_count (l := K.2.1) (G := G) (ρ := ρ) hR (ys_in (xs := xs) (i + 1))
  unfold LV
  refine x_aload_n 953 A.1 dL_law_952 rfl rfl rfl ?_
  refine xl_arg (k := 1) 958 A dL_law_953 dL_law_954 dL_law_955 dL_law_956 dL_law_957 rfl (by omega) hL ?_
  refine x_callV 961 A.1 dL_law_958 rfl hM rfl (lt79 (by decide)) rfl tb_4_80 tb_4_81 tb_4_82 tb_1_1 tb_4_83 (na := 1) (by decide +kernel) rfl ⟨Nat.le_of_ble_eq_true rfl, Nat.le_of_ble_eq_true rfl⟩ rfl (Nat.le_of_ble_eq_true rfl) rfl (fun r σ1 hq hR1 => ?_)
  obtain ⟨z, rfl, P2, hM2, hp2⟩ := hp _ _ hq
  refine x_aload_n 962 A.1 dL_law_961 rfl rfl rfl ?_
  refine xl_arg (k := 1) 967 A dL_law_962 dL_law_963 dL_law_964 dL_law_965 dL_law_966 rfl (by omega) hL ?_
  refine x_callV 970 A.1 dL_law_967 rfl hM2 rfl (lt79 (by decide)) rfl tb_6_97 tb_6_98 tb_6_99 tb_1_20 tb_6_100 (na := 1) (by decide +kernel) rfl ⟨Nat.le_of_ble_eq_true rfl, Nat.le_of_ble_eq_true rfl⟩ rfl (Nat.le_of_ble_eq_true rfl) rfl (fun r2 σ2 hq2 hR2 => ?_)
  obtain ⟨rfl, hRR⟩ := hp2 _ _ hq2
  exact xl_same 1210 A.1 dL_law_970 rfl (kk _ hRR)
theorem lc_sheet (A : AL K G "FirstSeenLaw" code 4 2048 84000 (TL b L xs) 0 ρ0 (NN tc) ρ sh1 ca cb) (hR : RR X tc cl σ) (hi : i + 5 < L) (hL : L ≤ 3072) (kk : ∀ σ', RR X tc cl σ' → Ex K G (NN tc) ρ (shp tc cl) 1210 (LV b ρ i) [] σ') : Ex K G (NN tc) ρ (shp tc cl) 975 (LV b ρ i) [] σ := by
  obtain ⟨P, hM, hp⟩ := J_sheet (l := K.2.1) (G := G) (ρ := ρ) hR (ys_in (xs := xs) (i + 1)) (ys_in (xs := xs) (i + 2)) (ys_in (xs := xs) (i + 3))
  unfold LV
  refine x_aload_n 976 A.1 dL_law_975 rfl rfl rfl ?_
  refine xl_arg (k := 1) 981 A dL_law_976 dL_law_977 dL_law_978 dL_law_979 dL_law_980 rfl (by omega) hL ?_
  refine xl_arg (k := 2) 986 A dL_law_981 dL_law_982 dL_law_983 dL_law_984 dL_law_985 rfl (by omega) hL ?_
  refine xl_arg (k := 3) 991 A dL_law_986 dL_law_987 dL_law_988 dL_law_989 dL_law_990 rfl (by omega) hL ?_
  refine x_callV 994 A.1 dL_law_991 rfl hM rfl (lt79 (by decide)) rfl tb_4_88 tb_4_89 tb_4_90 tb_1_1 tb_4_91 (na := 3) (by decide +kernel) rfl ⟨Nat.le_of_ble_eq_true rfl, Nat.le_of_ble_eq_true rfl⟩ rfl (Nat.le_of_ble_eq_true rfl) rfl (fun r σ1 hq hR1 => ?_)
  obtain ⟨z, rfl, P2, hM2, hp2⟩ := hp _ _ hq
  refine x_aload_n 995 A.1 dL_law_994 rfl rfl rfl ?_
  refine xl_arg (k := 1) 1000 A dL_law_995 dL_law_996 dL_law_997 dL_law_998 dL_law_999 rfl (by omega) hL ?_
  refine xl_arg (k := 2) 1005 A dL_law_1000 dL_law_1001 dL_law_1002 dL_law_1003 dL_law_1004 rfl (by omega) hL ?_
  refine xl_arg (k := 3) 1010 A dL_law_1005 dL_law_1006 dL_law_1007 dL_law_1008 dL_law_1009 rfl (by omega) hL ?_
  refine x_callV 1013 A.1 dL_law_1010 rfl hM2 rfl (lt79 (by decide)) rfl tb_6_102 tb_6_103 tb_6_104 tb_1_20 tb_6_105 (na := 3) (by decide +kernel) rfl ⟨Nat.le_of_ble_eq_true rfl, Nat.le_of_ble_eq_true rfl⟩ rfl (Nat.le_of_ble_eq_true rfl) rfl (fun r2 σ2 hq2 hR2 => ?_)
  obtain ⟨rfl, hRR⟩ := hp2 _ _ hq2
  exact xl_same 1210 A.1 dL_law_1013 rfl (kk _ hRR)
theorem lc_cell (A : AL K G "FirstSeenLaw" code 4 2048 84000 (TL b L xs) 0 ρ0 (NN tc) ρ sh1 ca cb) (hR : RR X tc cl σ) (hi : i + 5 < L) (hL : L ≤ 3072) (kk : ∀ σ', RR X tc cl σ' → Ex K G (NN tc) ρ (shp tc cl) 1210 (LV b ρ i) [] σ') : Ex K G (NN tc) ρ (shp tc cl) 1018 (LV b ρ i) [] σ := by
  obtain ⟨P, hM, hp⟩ := J_cell (l := K.2.1) (G := G) (ρ := ρ) hR (ys_in (xs := xs) (i + 1)) (ys_in (xs := xs) (i + 2)) (ys_in (xs := xs) (i + 3))
  unfold LV
  refine x_aload_n 1019 A.1 dL_law_1018 rfl rfl rfl ?_
  refine xl_arg (k := 1) 1024 A dL_law_1019 dL_law_1020 dL_law_1021 dL_law_1022 dL_law_1023 rfl (by omega) hL ?_
  refine xl_arg (k := 2) 1029 A dL_law_1024 dL_law_1025 dL_law_1026 dL_law_1027 dL_law_1028 rfl (by omega) hL ?_
  refine xl_arg (k := 3) 1034 A dL_law_1029 dL_law_1030 dL_law_1031 dL_law_1032 dL_law_1033 rfl (by omega) hL ?_
  refine x_callV 1037 A.1 dL_law_1034 rfl hM rfl (lt79 (by decide)) rfl tb_4_97 tb_4_98 tb_4_99 tb_1_1 tb_4_100 (na := 3) (by decide +kernel) rfl ⟨Nat.le_of_ble_eq_true rfl, Nat.le_of_ble_eq_true rfl⟩ rfl (Nat.le_of_ble_eq_true rfl) rfl (fun r σ1 hq hR1 => ?_)
  obtain ⟨z, rfl, P2, hM2, hp2⟩ := hp _ _ hq
  refine x_aload_n 1038 A.1 dL_law_1037 rfl rfl rfl ?_
  refine xl_arg (k := 1) 1043 A dL_law_1038 dL_law_1039 dL_law_1040 dL_law_1041 dL_law_1042 rfl (by omega) hL ?_
  refine xl_arg (k := 2) 1048 A dL_law_1043 dL_law_1044 dL_law_1045 dL_law_1046 dL_law_1047 rfl (by omega) hL ?_
  refine xl_arg (k := 3) 1053 A dL_law_1048 dL_law_1049 dL_law_1050 dL_law_1051 dL_law_1052 rfl (by omega) hL ?_
  refine x_callV 1056 A.1 dL_law_1053 rfl hM2 rfl (lt79 (by decide)) rfl tb_6_107 tb_6_108 tb_6_109 tb_1_20 tb_6_110 (na := 3) (by decide +kernel) rfl ⟨Nat.le_of_ble_eq_true rfl, Nat.le_of_ble_eq_true rfl⟩ rfl (Nat.le_of_ble_eq_true rfl) rfl (fun r2 σ2 hq2 hR2 => ?_)
  obtain ⟨rfl, hRR⟩ := hp2 _ _ hq2
  exact xl_same 1210 A.1 dL_law_1056 rfl (kk _ hRR)
theorem lc_copy (A : AL K G "FirstSeenLaw" code 4 2048 84000 (TL b L xs) 0 ρ0 (NN tc) ρ sh1 ca cb) (hR : RR X tc cl σ) (hi : i + 5 < L) (hL : L ≤ 3072) (kk : ∀ σ', RR X tc cl σ' → Ex K G (NN tc) ρ (shp tc cl) 1210 (LV b ρ i) [] σ') : Ex K G (NN tc) ρ (shp tc cl) 1061 (LV b ρ i) [] σ := by
  obtain ⟨P, hM, hp⟩ := J_copy (l := K.2.1) (G := G) (ρ := ρ) hR (ys_in (xs := xs) (i + 1)) (ys_in (xs := xs) (i + 2)) (ys_in (xs := xs) (i + 3)) (ys_in (xs := xs) (i + 4)) (ys_in (xs := xs) (i + 5))
  unfold LV
  refine x_aload_n 1062 A.1 dL_law_1061 rfl rfl rfl ?_
  refine xl_arg (k := 1) 1067 A dL_law_1062 dL_law_1063 dL_law_1064 dL_law_1065 dL_law_1066 rfl (by omega) hL ?_
  refine xl_arg (k := 2) 1072 A dL_law_1067 dL_law_1068 dL_law_1069 dL_law_1070 dL_law_1071 rfl (by omega) hL ?_
  refine xl_arg (k := 3) 1077 A dL_law_1072 dL_law_1073 dL_law_1074 dL_law_1075 dL_law_1076 rfl (by omega) hL ?_
  refine xl_arg (k := 4) 1082 A dL_law_1077 dL_law_1078 dL_law_1079 dL_law_1080 dL_law_1081 rfl (by omega) hL ?_
  refine xl_arg (k := 5) 1087 A dL_law_1082 dL_law_1083 dL_law_1084 dL_law_1085 dL_law_1086 rfl (by omega) hL ?_
  refine x_callV 1090 A.1 dL_law_1087 rfl hM rfl (lt79 (by decide)) rfl tb_4_105 tb_4_106 tb_4_107 tb_1_1 tb_4_108 (na := 5) (by decide +kernel) rfl ⟨Nat.le_of_ble_eq_true rfl, Nat.le_of_ble_eq_true rfl⟩ rfl (Nat.le_of_ble_eq_true rfl) rfl (fun r σ1 hq hR1 => ?_)
  obtain ⟨z, rfl, P2, hM2, hp2⟩ := hp _ _ hq
  refine x_aload_n 1091 A.1 dL_law_1090 rfl rfl rfl ?_
  refine xl_arg (k := 1) 1096 A dL_law_1091 dL_law_1092 dL_law_1093 dL_law_1094 dL_law_1095 rfl (by omega) hL ?_
  refine xl_arg (k := 2) 1101 A dL_law_1096 dL_law_1097 dL_law_1098 dL_law_1099 dL_law_1100 rfl (by omega) hL ?_
  refine xl_arg (k := 3) 1106 A dL_law_1101 dL_law_1102 dL_law_1103 dL_law_1104 dL_law_1105 rfl (by omega) hL ?_
  refine xl_arg (k := 4) 1111 A dL_law_1106 dL_law_1107 dL_law_1108 dL_law_1109 dL_law_1110 rfl (by omega) hL ?_
  refine xl_arg (k := 5) 1116 A dL_law_1111 dL_law_1112 dL_law_1113 dL_law_1114 dL_law_1115 rfl (by omega) hL ?_
  refine x_callV 1119 A.1 dL_law_1116 rfl hM2 rfl (lt79 (by decide)) rfl tb_6_111 tb_6_112 tb_6_113 tb_1_20 tb_6_114 (na := 5) (by decide +kernel) rfl ⟨Nat.le_of_ble_eq_true rfl, Nat.le_of_ble_eq_true rfl⟩ rfl (Nat.le_of_ble_eq_true rfl) rfl (fun r2 σ2 hq2 hR2 => ?_)
  obtain ⟨rfl, hRR⟩ := hp2 _ _ hq2
  exact xl_same 1210 A.1 dL_law_1119 rfl (kk _ hRR)
theorem lc_heights (A : AL K G "FirstSeenLaw" code 4 2048 84000 (TL b L xs) 0 ρ0 (NN tc) ρ sh1 ca cb) (hR : RR X tc cl σ) (hi : i + 5 < L) (hL : L ≤ 3072) (kk : ∀ σ', RR X tc cl σ' → Ex K G (NN tc) ρ (shp tc cl) 1210 (LV b ρ i) [] σ') : Ex K G (NN tc) ρ (shp tc cl) 1124 (LV b ρ i) [] σ := by
  obtain ⟨P, hM, hp⟩ := J_heights (l := K.2.1) (G := G) (ρ := ρ) hR (ys_in (xs := xs) (i + 1)) (ys_in (xs := xs) (i + 2)) (ys_in (xs := xs) (i + 3)) (ys_in (xs := xs) (i + 4))
  unfold LV
  refine x_aload_n 1125 A.1 dL_law_1124 rfl rfl rfl ?_
  refine xl_arg (k := 1) 1130 A dL_law_1125 dL_law_1126 dL_law_1127 dL_law_1128 dL_law_1129 rfl (by omega) hL ?_
  refine xl_arg (k := 2) 1135 A dL_law_1130 dL_law_1131 dL_law_1132 dL_law_1133 dL_law_1134 rfl (by omega) hL ?_
  refine xl_arg (k := 3) 1140 A dL_law_1135 dL_law_1136 dL_law_1137 dL_law_1138 dL_law_1139 rfl (by omega) hL ?_
  refine xl_arg (k := 4) 1145 A dL_law_1140 dL_law_1141 dL_law_1142 dL_law_1143 dL_law_1144 rfl (by omega) hL ?_
  refine x_callV 1148 A.1 dL_law_1145 rfl hM rfl (lt79 (by decide)) rfl tb_4_114 tb_4_115 tb_4_116 tb_1_1 tb_4_117 (na := 4) (by decide +kernel) rfl ⟨Nat.le_of_ble_eq_true rfl, Nat.le_of_ble_eq_true rfl⟩ rfl (Nat.le_of_ble_eq_true rfl) rfl (fun r σ1 hq hR1 => ?_)
  obtain ⟨z, rfl, P2, hM2, hp2⟩ := hp _ _ hq
  refine x_aload_n 1149 A.1 dL_law_1148 rfl rfl rfl ?_
  refine xl_arg (k := 1) 1154 A dL_law_1149 dL_law_1150 dL_law_1151 dL_law_1152 dL_law_1153 rfl (by omega) hL ?_
  refine xl_arg (k := 2) 1159 A dL_law_1154 dL_law_1155 dL_law_1156 dL_law_1157 dL_law_1158 rfl (by omega) hL ?_
  refine xl_arg (k := 3) 1164 A dL_law_1159 dL_law_1160 dL_law_1161 dL_law_1162 dL_law_1163 rfl (by omega) hL ?_
  refine xl_arg (k := 4) 1169 A dL_law_1164 dL_law_1165 dL_law_1166 dL_law_1167 dL_law_1168 rfl (by omega) hL ?_
  refine x_callV 1172 A.1 dL_law_1169 rfl hM2 rfl (lt79 (by decide)) rfl tb_6_115 tb_6_116 tb_6_117 tb_1_20 tb_6_118 (na := 4) (by decide +kernel) rfl ⟨Nat.le_of_ble_eq_true rfl, Nat.le_of_ble_eq_true rfl⟩ rfl (Nat.le_of_ble_eq_true rfl) rfl (fun r2 σ2 hq2 hR2 => ?_)
  obtain ⟨rfl, hRR⟩ := hp2 _ _ hq2
  exact xl_same 1210 A.1 dL_law_1172 rfl (kk _ hRR)
theorem lc_taken (A : AL K G "FirstSeenLaw" code 4 2048 84000 (TL b L xs) 0 ρ0 (NN tc) ρ sh1 ca cb) (hR : RR X tc cl σ) (hi : i + 5 < L) (hL : L ≤ 3072) (kk : ∀ σ', RR X tc cl σ' → Ex K G (NN tc) ρ (shp tc cl) 1210 (LV b ρ i) [] σ') : Ex K G (NN tc) ρ (shp tc cl) 1177 (LV b ρ i) [] σ := by
  obtain ⟨P, hM, hp⟩ := J_taken (l := K.2.1) (G := G) (ρ := ρ) hR (ys_in (xs := xs) (i + 1)) (ys_in (xs := xs) (i + 2))
  unfold LV
  refine x_aload_n 1178 A.1 dL_law_1177 rfl rfl rfl ?_
  refine xl_arg (k := 1) 1183 A dL_law_1178 dL_law_1179 dL_law_1180 dL_law_1181 dL_law_1182 rfl (by omega) hL ?_
  refine xl_arg (k := 2) 1188 A dL_law_1183 dL_law_1184 dL_law_1185 dL_law_1186 dL_law_1187 rfl (by omega) hL ?_
  refine x_callV 1191 A.1 dL_law_1188 rfl hM rfl (lt79 (by decide)) rfl tb_4_118 tb_4_119 tb_4_120 tb_1_1 tb_4_121 (na := 2) (by decide +kernel) rfl ⟨Nat.le_of_ble_eq_true rfl, Nat.le_of_ble_eq_true rfl⟩ rfl (Nat.le_of_ble_eq_true rfl) rfl (fun r σ1 hq hR1 => ?_)
  obtain ⟨z, rfl, P2, hM2, hp2⟩ := hp _ _ hq
  refine x_aload_n 1192 A.1 dL_law_1191 rfl rfl rfl ?_
  refine xl_arg (k := 1) 1197 A dL_law_1192 dL_law_1193 dL_law_1194 dL_law_1195 dL_law_1196 rfl (by omega) hL ?_
  refine xl_arg (k := 2) 1202 A dL_law_1197 dL_law_1198 dL_law_1199 dL_law_1200 dL_law_1201 rfl (by omega) hL ?_
  refine x_callV 1205 A.1 dL_law_1202 rfl hM2 rfl (lt79 (by decide)) rfl tb_6_120 tb_6_121 tb_6_122 tb_1_20 tb_6_123 (na := 2) (by decide +kernel) rfl ⟨Nat.le_of_ble_eq_true rfl, Nat.le_of_ble_eq_true rfl⟩ rfl (Nat.le_of_ble_eq_true rfl) rfl (fun r2 σ2 hq2 hR2 => ?_)
  obtain ⟨rfl, hRR⟩ := hp2 _ _ hq2
  exact xl_same 1210 A.1 dL_law_1205 rfl (kk _ hRR)
end LCASE