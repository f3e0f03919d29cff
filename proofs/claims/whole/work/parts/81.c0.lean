set_option maxHeartbeats 4000000 in
set_option maxRecDepth 100000 in
theorem case_0 {v : Av} {D : va_G} {cA : Nat → ClassId} {A : Nat → Prop} {Q : State → Prop} {ax am : Nat → Nat} {b L i : Nat} {xs : Nat → Int32} {M N : Mem} (hC : LC v D cA A b L xs) (hi : i + 6 ≤ L) (hI : Inv M N) (hk : ∀ M N, Inv M N → LO v D cA A Q ax am b i 1283 [] M N) : LO v D cA A Q ax am b i 192 [] M N := by
  have hA := hC.1
  obtain ⟨r, M', N', h1, h2, hI'⟩ := p_street hI (xs (i + 1)) (xs (i + 2)) (xs (i + 3)) (xs (i + 4))
  refine CO.aload_n (n := 193) hA dL_law_192 2 rfl rfl ?_
  refine CO.arg (k := 1) (n := 198) hC (by omega) rfl dL_law_193 dL_law_194 dL_law_195 dL_law_196 dL_law_197 rfl ?_
  refine CO.arg (k := 2) (n := 203) hC (by omega) rfl dL_law_198 dL_law_199 dL_law_200 dL_law_201 dL_law_202 rfl ?_
  refine CO.arg (k := 3) (n := 208) hC (by omega) rfl dL_law_203 dL_law_204 dL_law_205 dL_law_206 dL_law_207 rfl ?_
  refine CO.arg (k := 4) (n := 213) hC (by omega) rfl dL_law_208 dL_law_209 dL_law_210 dL_law_211 dL_law_212 rfl ?_
  refine CO.callV (r := 0) (m := 4) (n := 216) (As := [.int (xs (i + 1)), .int (xs (i + 2)), .int (xs (i + 3)), .int (xs (i + 4))]) (rest := []) hA (c_X5_street v.2.1 (D, ax, cA, w_list am cA N 0 shM, A, shX) rfl (xs (i + 1)) (xs (i + 2)) (xs (i + 3)) (xs (i + 4)) M) h1 gL_law_X5_street rfl rfl rfl (by decide +kernel) (by decide) rfl rfl (by decide : (0 : Nat) ≤ 8) dL_law_213 rfl (by decide) ?_
  refine CO.swap ?_
  refine CO.aload_n (n := 217) hA dL_law_216 1 rfl rfl ?_
  refine CO.arg (k := 1) (n := 222) hC (by omega) rfl dL_law_217 dL_law_218 dL_law_219 dL_law_220 dL_law_221 rfl ?_
  refine CO.arg (k := 2) (n := 227) hC (by omega) rfl dL_law_222 dL_law_223 dL_law_224 dL_law_225 dL_law_226 rfl ?_
  refine CO.arg (k := 3) (n := 232) hC (by omega) rfl dL_law_227 dL_law_228 dL_law_229 dL_law_230 dL_law_231 rfl ?_
  refine CO.arg (k := 4) (n := 237) hC (by omega) rfl dL_law_232 dL_law_233 dL_law_234 dL_law_235 dL_law_236 rfl ?_
  refine CO.callV (r := 0) (m := 4) (n := 240) (As := [.int (xs (i + 1)), .int (xs (i + 2)), .int (xs (i + 3)), .int (xs (i + 4))]) (rest := [.int r]) hA (c_X6_street v.2.1 (D, am, cA, w_list ax cA M' 0 shX, A, shM) rfl (xs (i + 1)) (xs (i + 2)) (xs (i + 3)) (xs (i + 4)) N) h2 gL_law_X6_street rfl rfl rfl (by decide +kernel) (by decide) rfl rfl (by decide : (1 : Nat) ≤ 8) dL_law_237 rfl (by decide) ?_
  refine CO.swap ?_
  refine CO.same_i (n := 1283) hA dL_law_240 rfl ?_
  exact hk M' N' hI'
set_option maxHeartbeats 4000000 in
set_option maxRecDepth 100000 in
theorem case_1 {v : Av} {D : va_G} {cA : Nat → ClassId} {A : Nat → Prop} {Q : State → Prop} {ax am : Nat → Nat} {b L i : Nat} {xs : Nat → Int32} {M N : Mem} (hC : LC v D cA A b L xs) (hi : i + 6 ≤ L) (hI : Inv M N) (hk : ∀ M N, Inv M N → LO v D cA A Q ax am b i 1283 [] M N) : LO v D cA A Q ax am b i 245 [] M N := by
  have hA := hC.1
  obtain ⟨r, M', N', h1, h2, hI'⟩ := p_ofHouse hI (xs (i + 1)) (xs (i + 2))
  refine CO.aload_n (n := 246) hA dL_law_245 2 rfl rfl ?_
  refine CO.arg (k := 1) (n := 251) hC (by omega) rfl dL_law_246 dL_law_247 dL_law_248 dL_law_249 dL_law_250 rfl ?_
  refine CO.arg (k := 2) (n := 256) hC (by omega) rfl dL_law_251 dL_law_252 dL_law_253 dL_law_254 dL_law_255 rfl ?_
  refine CO.callV (r := 0) (m := 2) (n := 259) (As := [.int (xs (i + 1)), .int (xs (i + 2))]) (rest := []) hA (c_X5_ofHouse v.2.1 (D, ax, cA, w_list am cA N 0 shM, A, shX) rfl (xs (i + 1)) (xs (i + 2)) M) h1 gL_law_X5_ofHouse rfl rfl rfl (by decide +kernel) (by decide) rfl rfl (by decide : (0 : Nat) ≤ 8) dL_law_256 rfl (by decide) ?_
  refine CO.swap ?_
  refine CO.aload_n (n := 260) hA dL_law_259 1 rfl rfl ?_
  refine CO.arg (k := 1) (n := 265) hC (by omega) rfl dL_law_260 dL_law_261 dL_law_262 dL_law_263 dL_law_264 rfl ?_
  refine CO.arg (k := 2) (n := 270) hC (by omega) rfl dL_law_265 dL_law_266 dL_law_267 dL_law_268 dL_law_269 rfl ?_
  refine CO.callV (r := 0) (m := 2) (n := 273) (As := [.int (xs (i + 1)), .int (xs (i + 2))]) (rest := [.int r]) hA (c_X6_ofHouse v.2.1 (D, am, cA, w_list ax cA M' 0 shX, A, shM) rfl (xs (i + 1)) (xs (i + 2)) N) h2 gL_law_X6_ofHouse rfl rfl rfl (by decide +kernel) (by decide) rfl rfl (by decide : (1 : Nat) ≤ 8) dL_law_270 rfl (by decide) ?_
  refine CO.swap ?_
  refine CO.same_i (n := 1283) hA dL_law_273 rfl ?_
  exact hk M' N' hI'
set_option maxHeartbeats 4000000 in
set_option maxRecDepth 100000 in
theorem case_2 {v : Av} {D : va_G} {cA : Nat → ClassId} {A : Nat → Prop} {Q : State → Prop} {ax am : Nat → Nat} {b L i : Nat} {xs : Nat → Int32} {M N : Mem} (hC : LC v D cA A b L xs) (hi : i + 6 ≤ L) (hI : Inv M N) (hk : ∀ M N, Inv M N → LO v D cA A Q ax am b i 1283 [] M N) : LO v D cA A Q ax am b i 278 [] M N := by
  have hA := hC.1
  obtain ⟨r, M', N', h1, h2, hI'⟩ := p_ofClock hI (xs (i + 1)) (xs (i + 2))
  refine CO.aload_n (n := 279) hA dL_law_278 2 rfl rfl ?_
  refine CO.arg (k := 1) (n := 284) hC (by omega) rfl dL_law_279 dL_law_280 dL_law_281 dL_law_282 dL_law_283 rfl ?_
  refine CO.arg (k := 2) (n := 289) hC (by omega) rfl dL_law_284 dL_law_285 dL_law_286 dL_law_287 dL_law_288 rfl ?_
  refine CO.callV (r := 0) (m := 2) (n := 292) (As := [.int (xs (i + 1)), .int (xs (i + 2))]) (rest := []) hA (c_X5_ofClock v.2.1 (D, ax, cA, w_list am cA N 0 shM, A, shX) rfl (xs (i + 1)) (xs (i + 2)) M) h1 gL_law_X5_ofClock rfl rfl rfl (by decide +kernel) (by decide) rfl rfl (by decide : (0 : Nat) ≤ 8) dL_law_289 rfl (by decide) ?_
  refine CO.swap ?_
  refine CO.aload_n (n := 293) hA dL_law_292 1 rfl rfl ?_
  refine CO.arg (k := 1) (n := 298) hC (by omega) rfl dL_law_293 dL_law_294 dL_law_295 dL_law_296 dL_law_297 rfl ?_
  refine CO.arg (k := 2) (n := 303) hC (by omega) rfl dL_law_298 dL_law_299 dL_law_300 dL_law_301 dL_law_302 rfl ?_
  refine CO.callV (r := 0) (m := 2) (n := 306) (As := [.int (xs (i + 1)), .int (xs (i + 2))]) (rest := [.int r]) hA (c_X6_ofClock v.2.1 (D, am, cA, w_list ax cA M' 0 shX, A, shM) rfl (xs (i + 1)) (xs (i + 2)) N) h2 gL_law_X6_ofClock rfl rfl rfl (by decide +kernel) (by decide) rfl rfl (by decide : (1 : Nat) ≤ 8) dL_law_303 rfl (by decide) ?_
  refine CO.swap ?_
  refine CO.same_i (n := 1283) hA dL_law_306 rfl ?_
  exact hk M' N' hI'
set_option maxHeartbeats 4000000 in
set_option maxRecDepth 100000 in
theorem case_3 {v : Av} {D : va_G} {cA : Nat → ClassId} {A : Nat → Prop} {Q : State → Prop} {ax am : Nat → Nat} {b L i : Nat} {xs : Nat → Int32} {M N : Mem} (hC : LC v D cA A b L xs) (hi : i + 6 ≤ L) (hI : Inv M N) (hk : ∀ M N, Inv M N → LO v D cA A Q ax am b i 1283 [] M N) : LO v D cA A Q ax am b i 311 [] M N := by
  have hA := hC.1
  obtain ⟨r, M', N', h1, h2, hI'⟩ := p_drowse hI (xs (i + 1)) (xs (i + 2))
  refine CO.aload_n (n := 312) hA dL_law_311 2 rfl rfl ?_
  refine CO.arg (k := 1) (n := 317) hC (by omega) rfl dL_law_312 dL_law_313 dL_law_314 dL_law_315 dL_law_316 rfl ?_
  refine CO.arg (k := 2) (n := 322) hC (by omega) rfl dL_law_317 dL_law_318 dL_law_319 dL_law_320 dL_law_321 rfl ?_
  refine CO.callV (r := 0) (m := 2) (n := 325) (As := [.int (xs (i + 1)), .int (xs (i + 2))]) (rest := []) hA (c_X5_drowse v.2.1 (D, ax, cA, w_list am cA N 0 shM, A, shX) rfl (xs (i + 1)) (xs (i + 2)) M) h1 gL_law_X5_drowse rfl rfl rfl (by decide +kernel) (by decide) rfl rfl (by decide : (0 : Nat) ≤ 8) dL_law_322 rfl (by decide) ?_
  refine CO.swap ?_
  refine CO.aload_n (n := 326) hA dL_law_325 1 rfl rfl ?_
  refine CO.arg (k := 1) (n := 331) hC (by omega) rfl dL_law_326 dL_law_327 dL_law_328 dL_law_329 dL_law_330 rfl ?_
  refine CO.arg (k := 2) (n := 336) hC (by omega) rfl dL_law_331 dL_law_332 dL_law_333 dL_law_334 dL_law_335 rfl ?_
  refine CO.callV (r := 0) (m := 2) (n := 339) (As := [.int (xs (i + 1)), .int (xs (i + 2))]) (rest := [.int r]) hA (c_X6_drowse v.2.1 (D, am, cA, w_list ax cA M' 0 shX, A, shM) rfl (xs (i + 1)) (xs (i + 2)) N) h2 gL_law_X6_drowse rfl rfl rfl (by decide +kernel) (by decide) rfl rfl (by decide : (1 : Nat) ≤ 8) dL_law_336 rfl (by decide) ?_
  refine CO.swap ?_
  refine CO.same_i (n := 1283) hA dL_law_339 rfl ?_
  exact hk M' N' hI'
set_option maxHeartbeats 4000000 in
set_option maxRecDepth 100000 in
theorem case_4 {v : Av} {D : va_G} {cA : Nat → ClassId} {A : Nat → Prop} {Q : State → Prop} {ax am : Nat → Nat} {b L i : Nat} {xs : Nat → Int32} {M N : Mem} (hC : LC v D cA A b L xs) (hi : i + 6 ≤ L) (hI : Inv M N) (hk : ∀ M N, Inv M N → LO v D cA A Q ax am b i 1283 [] M N) : LO v D cA A Q ax am b i 344 [] M N := by
  have hA := hC.1
  obtain ⟨r, M', N', h1, h2, hI'⟩ := p_tune hI (xs (i + 1)) (xs (i + 2))
  refine CO.aload_n (n := 345) hA dL_law_344 2 rfl rfl ?_
  refine CO.arg (k := 1) (n := 350) hC (by omega) rfl dL_law_345 dL_law_346 dL_law_347 dL_law_348 dL_law_349 rfl ?_
  refine CO.arg (k := 2) (n := 355) hC (by omega) rfl dL_law_350 dL_law_351 dL_law_352 dL_law_353 dL_law_354 rfl ?_
  refine CO.callV (r := 0) (m := 2) (n := 358) (As := [.int (xs (i + 1)), .int (xs (i + 2))]) (rest := []) hA (c_X5_tune v.2.1 (D, ax, cA, w_list am cA N 0 shM, A, shX) rfl (xs (i + 1)) (xs (i + 2)) M) h1 gL_law_X5_tune rfl rfl rfl (by decide +kernel) (by decide) rfl rfl (by decide : (0 : Nat) ≤ 8) dL_law_355 rfl (by decide) ?_
  refine CO.swap ?_
  refine CO.aload_n (n := 359) hA dL_law_358 1 rfl rfl ?_
  refine CO.arg (k := 1) (n := 364) hC (by omega) rfl dL_law_359 dL_law_360 dL_law_361 dL_law_362 dL_law_363 rfl ?_
  refine CO.arg (k := 2) (n := 369) hC (by omega) rfl dL_law_364 dL_law_365 dL_law_366 dL_law_367 dL_law_368 rfl ?_
  refine CO.callV (r := 0) (m := 2) (n := 372) (As := [.int (xs (i + 1)), .int (xs (i + 2))]) (rest := [.int r]) hA (c_X6_tune v.2.1 (D, am, cA, w_list ax cA M' 0 shX, A, shM) rfl (xs (i + 1)) (xs (i + 2)) N) h2 gL_law_X6_tune rfl rfl rfl (by decide +kernel) (by decide) rfl rfl (by decide : (1 : Nat) ≤ 8) dL_law_369 rfl (by decide) ?_
  refine CO.swap ?_
  refine CO.same_i (n := 1283) hA dL_law_372 rfl ?_
  exact hk M' N' hI'
set_option maxHeartbeats 4000000 in
set_option maxRecDepth 100000 in
theorem case_5 {v : Av} {D : va_G} {cA : Nat → ClassId} {A : Nat → Prop} {Q : State → Prop} {ax am : Nat → Nat} {b L i : Nat} {xs : Nat → Int32} {M N : Mem} (hC : LC v D cA A b L xs) (hi : i + 6 ≤ L) (hI : Inv M N) (hk : ∀ M N, Inv M N → LO v D cA A Q ax am b i 1283 [] M N) : LO v D cA A Q ax am b i 377 [] M N := by
  have hA := hC.1
  obtain ⟨r, M', N', h1, h2, hI'⟩ := p_wall hI (xs (i + 1))
  refine CO.aload_n (n := 378) hA dL_law_377 2 rfl rfl ?_
  refine CO.arg (k := 1) (n := 383) hC (by omega) rfl dL_law_378 dL_law_379 dL_law_380 dL_law_381 dL_law_382 rfl ?_
  refine CO.callV (r := 0) (m := 1) (n := 386) (As := [.int (xs (i + 1))]) (rest := []) hA (c_X5_wall v.2.1 (D, ax, cA, w_list am cA N 0 shM, A, shX) rfl (xs (i + 1)) M) h1 gL_law_X5_wall rfl rfl rfl (by decide +kernel) (by decide) rfl rfl (by decide : (0 : Nat) ≤ 8) dL_law_383 rfl (by decide) ?_
  refine CO.swap ?_
  refine CO.aload_n (n := 387) hA dL_law_386 1 rfl rfl ?_
  refine CO.arg (k := 1) (n := 392) hC (by omega) rfl dL_law_387 dL_law_388 dL_law_389 dL_law_390 dL_law_391 rfl ?_
  refine CO.callV (r := 0) (m := 1) (n := 395) (As := [.int (xs (i + 1))]) (rest := [.int r]) hA (c_X6_wall v.2.1 (D, am, cA, w_list ax cA M' 0 shX, A, shM) rfl (xs (i + 1)) N) h2 gL_law_X6_wall rfl rfl rfl (by decide +kernel) (by decide) rfl rfl (by decide : (1 : Nat) ≤ 8) dL_law_392 rfl (by decide) ?_
  refine CO.swap ?_
  refine CO.same_i (n := 1283) hA dL_law_395 rfl ?_
  exact hk M' N' hI'
set_option maxHeartbeats 4000000 in
set_option maxRecDepth 100000 in
theorem case_6 {v : Av} {D : va_G} {cA : Nat → ClassId} {A : Nat → Prop} {Q : State → Prop} {ax am : Nat → Nat} {b L i : Nat} {xs : Nat → Int32} {M N : Mem} (hC : LC v D cA A b L xs) (hi : i + 6 ≤ L) (hI : Inv M N) (hk : ∀ M N, Inv M N → LO v D cA A Q ax am b i 1283 [] M N) : LO v D cA A Q ax am b i 400 [] M N := by
  have hA := hC.1
  obtain ⟨r, M', N', h1, h2, hI'⟩ := p_hears hI (xs (i + 1)) (xs (i + 2))
  refine CO.aload_n (n := 401) hA dL_law_400 2 rfl rfl ?_
  refine CO.arg (k := 1) (n := 406) hC (by omega) rfl dL_law_401 dL_law_402 dL_law_403 dL_law_404 dL_law_405 rfl ?_
  refine CO.arg (k := 2) (n := 411) hC (by omega) rfl dL_law_406 dL_law_407 dL_law_408 dL_law_409 dL_law_410 rfl ?_
  refine CO.callV (r := 0) (m := 2) (n := 414) (As := [.int (xs (i + 1)), .int (xs (i + 2))]) (rest := []) hA (c_X5_hears v.2.1 (D, ax, cA, w_list am cA N 0 shM, A, shX) rfl (xs (i + 1)) (xs (i + 2)) M) h1 gL_law_X5_hears rfl rfl rfl (by decide +kernel) (by decide) rfl rfl (by decide : (0 : Nat) ≤ 8) dL_law_411 rfl (by decide) ?_
  refine CO.swap ?_
  refine CO.aload_n (n := 415) hA dL_law_414 1 rfl rfl ?_
  refine CO.arg (k := 1) (n := 420) hC (by omega) rfl dL_law_415 dL_law_416 dL_law_417 dL_law_418 dL_law_419 rfl ?_
  refine CO.arg (k := 2) (n := 425) hC (by omega) rfl dL_law_420 dL_law_421 dL_law_422 dL_law_423 dL_law_424 rfl ?_
  refine CO.callV (r := 0) (m := 2) (n := 428) (As := [.int (xs (i + 1)), .int (xs (i + 2))]) (rest := [.long r]) hA (c_X6_hears v.2.1 (D, am, cA, w_list ax cA M' 0 shX, A, shM) rfl (xs (i + 1)) (xs (i + 2)) N) h2 gL_law_X6_hears rfl rfl rfl (by decide +kernel) (by decide) rfl rfl (by decide : (2 : Nat) ≤ 8) dL_law_425 rfl (by decide) ?_
  refine CO.swap ?_
  refine CO.same_l (n := 1283) hA dL_law_428 dL_law_429 rfl ?_
  exact hk M' N' hI'
set_option maxHeartbeats 4000000 in
set_option maxRecDepth 100000 in
theorem case_7 {v : Av} {D : va_G} {cA : Nat → ClassId} {A : Nat → Prop} {Q : State → Prop} {ax am : Nat → Nat} {b L i : Nat} {xs : Nat → Int32} {M N : Mem} (hC : LC v D cA A b L xs) (hi : i + 6 ≤ L) (hI : Inv M N) (hk : ∀ M N, Inv M N → LO v D cA A Q ax am b i 1283 [] M N) : LO v D cA A Q ax am b i 434 [] M N := by
  have hA := hC.1
  obtain ⟨r, M', N', h1, h2, hI'⟩ := p_stroke hI (xs (i + 1))
  refine CO.aload_n (n := 435) hA dL_law_434 2 rfl rfl ?_
  refine CO.arg (k := 1) (n := 440) hC (by omega) rfl dL_law_435 dL_law_436 dL_law_437 dL_law_438 dL_law_439 rfl ?_
  refine CO.callV (r := 0) (m := 1) (n := 443) (As := [.int (xs (i + 1))]) (rest := []) hA (c_X5_stroke v.2.1 (D, ax, cA, w_list am cA N 0 shM, A, shX) rfl (xs (i + 1)) M) h1 gL_law_X5_stroke rfl rfl rfl (by decide +kernel) (by decide) rfl rfl (by decide : (0 : Nat) ≤ 8) dL_law_440 rfl (by decide) ?_
  refine CO.swap ?_
  refine CO.aload_n (n := 444) hA dL_law_443 1 rfl rfl ?_
  refine CO.arg (k := 1) (n := 449) hC (by omega) rfl dL_law_444 dL_law_445 dL_law_446 dL_law_447 dL_law_448 rfl ?_
  refine CO.callV (r := 0) (m := 1) (n := 452) (As := [.int (xs (i + 1))]) (rest := [.int r]) hA (c_X6_stroke v.2.1 (D, am, cA, w_list ax cA M' 0 shX, A, shM) rfl (xs (i + 1)) N) h2 gL_law_X6_stroke rfl rfl rfl (by decide +kernel) (by decide) rfl rfl (by decide : (1 : Nat) ≤ 8) dL_law_449 rfl (by decide) ?_
  refine CO.swap ?_
  refine CO.same_i (n := 1283) hA dL_law_452 rfl ?_
  exact hk M' N' hI'
set_option maxHeartbeats 4000000 in
set_option maxRecDepth 100000 in
theorem case_8 {v : Av} {D : va_G} {cA : Nat → ClassId} {A : Nat → Prop} {Q : State → Prop} {ax am : Nat → Nat} {b L i : Nat} {xs : Nat → Int32} {M N : Mem} (hC : LC v D cA A b L xs) (hi : i + 6 ≤ L) (hI : Inv M N) (hk : ∀ M N, Inv M N → LO v D cA A Q ax am b i 1283 [] M N) : LO v D cA A Q ax am b i 457 [] M N := by
  have hA := hC.1
  obtain ⟨r, M', N', h1, h2, hI'⟩ := p_nights hI (xs (i + 1))
  refine CO.aload_n (n := 458) hA dL_law_457 2 rfl rfl ?_
  refine CO.arg (k := 1) (n := 463) hC (by omega) rfl dL_law_458 dL_law_459 dL_law_460 dL_law_461 dL_law_462 rfl ?_
  refine CO.callV (r := 0) (m := 1) (n := 466) (As := [.int (xs (i + 1))]) (rest := []) hA (c_X5_nights v.2.1 (D, ax, cA, w_list am cA N 0 shM, A, shX) rfl (xs (i + 1)) M) h1 gL_law_X5_nights rfl rfl rfl (by decide +kernel) (by decide) rfl rfl (by decide : (0 : Nat) ≤ 8) dL_law_463 rfl (by decide) ?_
  refine CO.swap ?_
  refine CO.aload_n (n := 467) hA dL_law_466 1 rfl rfl ?_
  refine CO.arg (k := 1) (n := 472) hC (by omega) rfl dL_law_467 dL_law_468 dL_law_469 dL_law_470 dL_law_471 rfl ?_
  refine CO.callV (r := 0) (m := 1) (n := 475) (As := [.int (xs (i + 1))]) (rest := [.int r]) hA (c_X6_nights v.2.1 (D, am, cA, w_list ax cA M' 0 shX, A, shM) rfl (xs (i + 1)) N) h2 gL_law_X6_nights rfl rfl rfl (by decide +kernel) (by decide) rfl rfl (by decide : (1 : Nat) ≤ 8) dL_law_472 rfl (by decide) ?_
  refine CO.swap ?_
  refine CO.same_i (n := 1283) hA dL_law_475 rfl ?_
  exact hk M' N' hI'
set_option maxHeartbeats 4000000 in
set_option maxRecDepth 100000 in
theorem case_9 {v : Av} {D : va_G} {cA : Nat → ClassId} {A : Nat → Prop} {Q : State → Prop} {ax am : Nat → Nat} {b L i : Nat} {xs : Nat → Int32} {M N : Mem} (hC : LC v D cA A b L xs) (hi : i + 6 ≤ L) (hI : Inv M N) (hk : ∀ M N, Inv M N → LO v D cA A Q ax am b i 1283 [] M N) : LO v D cA A Q ax am b i 480 [] M N := by
  have hA := hC.1
  obtain ⟨r, M', N', h1, h2, hI'⟩ := p_stuff hI (xs (i + 1))
  refine CO.aload_n (n := 481) hA dL_law_480 2 rfl rfl ?_
  refine CO.arg (k := 1) (n := 486) hC (by omega) rfl dL_law_481 dL_law_482 dL_law_483 dL_law_484 dL_law_485 rfl ?_
  refine CO.callV (r := 0) (m := 1) (n := 489) (As := [.int (xs (i + 1))]) (rest := []) hA (c_X5_stuff v.2.1 (D, ax, cA, w_list am cA N 0 shM, A, shX) rfl (xs (i + 1)) M) h1 gL_law_X5_stuff rfl rfl rfl (by decide +kernel) (by decide) rfl rfl (by decide : (0 : Nat) ≤ 8) dL_law_486 rfl (by decide) ?_
  refine CO.swap ?_
  refine CO.aload_n (n := 490) hA dL_law_489 1 rfl rfl ?_
  refine CO.arg (k := 1) (n := 495) hC (by omega) rfl dL_law_490 dL_law_491 dL_law_492 dL_law_493 dL_law_494 rfl ?_
  refine CO.callV (r := 0) (m := 1) (n := 498) (As := [.int (xs (i + 1))]) (rest := [.int r]) hA (c_X6_stuff v.2.1 (D, am, cA, w_list ax cA M' 0 shX, A, shM) rfl (xs (i + 1)) N) h2 gL_law_X6_stuff rfl rfl rfl (by decide +kernel) (by decide) rfl rfl (by decide : (1 : Nat) ≤ 8) dL_law_495 rfl (by decide) ?_
  refine CO.swap ?_
  refine CO.same_i (n := 1283) hA dL_law_498 rfl ?_
  exact hk M' N' hI'
set_option maxHeartbeats 4000000 in
set_option maxRecDepth 100000 in
theorem case_10 {v : Av} {D : va_G} {cA : Nat → ClassId} {A : Nat → Prop} {Q : State → Prop} {ax am : Nat → Nat} {b L i : Nat} {xs : Nat → Int32} {M N : Mem} (hC : LC v D cA A b L xs) (hi : i + 6 ≤ L) (hI : Inv M N) (hk : ∀ M N, Inv M N → LO v D cA A Q ax am b i 1283 [] M N) : LO v D cA A Q ax am b i 503 [] M N := by
  have hA := hC.1
  obtain ⟨r, M', N', h1, h2, hI'⟩ := p_ease hI (xs (i + 1))
  refine CO.aload_n (n := 504) hA dL_law_503 2 rfl rfl ?_
  refine CO.arg (k := 1) (n := 509) hC (by omega) rfl dL_law_504 dL_law_505 dL_law_506 dL_law_507 dL_law_508 rfl ?_
  refine CO.callV (r := 0) (m := 1) (n := 512) (As := [.int (xs (i + 1))]) (rest := []) hA (c_X5_ease v.2.1 (D, ax, cA, w_list am cA N 0 shM, A, shX) rfl (xs (i + 1)) M) h1 gL_law_X5_ease rfl rfl rfl (by decide +kernel) (by decide) rfl rfl (by decide : (0 : Nat) ≤ 8) dL_law_509 rfl (by decide) ?_
  refine CO.swap ?_
  refine CO.aload_n (n := 513) hA dL_law_512 1 rfl rfl ?_
  refine CO.arg (k := 1) (n := 518) hC (by omega) rfl dL_law_513 dL_law_514 dL_law_515 dL_law_516 dL_law_517 rfl ?_
  refine CO.callV (r := 0) (m := 1) (n := 521) (As := [.int (xs (i + 1))]) (rest := [.int r]) hA (c_X6_ease v.2.1 (D, am, cA, w_list ax cA M' 0 shX, A, shM) rfl (xs (i + 1)) N) h2 gL_law_X6_ease rfl rfl rfl (by decide +kernel) (by decide) rfl rfl (by decide : (1 : Nat) ≤ 8) dL_law_518 rfl (by decide) ?_
  refine CO.swap ?_
  refine CO.same_i (n := 1283) hA dL_law_521 rfl ?_
  exact hk M' N' hI'
set_option maxHeartbeats 4000000 in
set_option maxRecDepth 100000 in
theorem case_11 {v : Av} {D : va_G} {cA : Nat → ClassId} {A : Nat → Prop} {Q : State → Prop} {ax am : Nat → Nat} {b L i : Nat} {xs : Nat → Int32} {M N : Mem} (hC : LC v D cA A b L xs) (hi : i + 6 ≤ L) (hI : Inv M N) (hk : ∀ M N, Inv M N → LO v D cA A Q ax am b i 1283 [] M N) : LO v D cA A Q ax am b i 526 [] M N := by
  have hA := hC.1
  obtain ⟨r, M', N', h1, h2, hI'⟩ := p_carry hI (xs (i + 1)) (xs (i + 2))
  refine CO.aload_n (n := 527) hA dL_law_526 2 rfl rfl ?_
  refine CO.arg (k := 1) (n := 532) hC (by omega) rfl dL_law_527 dL_law_528 dL_law_529 dL_law_530 dL_law_531 rfl ?_
  refine CO.arg (k := 2) (n := 537) hC (by omega) rfl dL_law_532 dL_law_533 dL_law_534 dL_law_535 dL_law_536 rfl ?_
  refine CO.callV (r := 0) (m := 2) (n := 540) (As := [.int (xs (i + 1)), .int (xs (i + 2))]) (rest := []) hA (c_X5_carry v.2.1 (D, ax, cA, w_list am cA N 0 shM, A, shX) rfl (xs (i + 1)) (xs (i + 2)) M) h1 gL_law_X5_carry rfl rfl rfl (by decide +kernel) (by decide) rfl rfl (by decide : (0 : Nat) ≤ 8) dL_law_537 rfl (by decide) ?_
  refine CO.swap ?_
  refine CO.aload_n (n := 541) hA dL_law_540 1 rfl rfl ?_
  refine CO.arg (k := 1) (n := 546) hC (by omega) rfl dL_law_541 dL_law_542 dL_law_543 dL_law_544 dL_law_545 rfl ?_
  refine CO.arg (k := 2) (n := 551) hC (by omega) rfl dL_law_546 dL_law_547 dL_law_548 dL_law_549 dL_law_550 rfl ?_
  refine CO.callV (r := 0) (m := 2) (n := 554) (As := [.int (xs (i + 1)), .int (xs (i + 2))]) (rest := [.int r]) hA (c_X6_carry v.2.1 (D, am, cA, w_list ax cA M' 0 shX, A, shM) rfl (xs (i + 1)) (xs (i + 2)) N) h2 gL_law_X6_carry rfl rfl rfl (by decide +kernel) (by decide) rfl rfl (by decide : (1 : Nat) ≤ 8) dL_law_551 rfl (by decide) ?_
  refine CO.swap ?_
  refine CO.same_i (n := 1283) hA dL_law_554 rfl ?_
  exact hk M' N' hI'
