/-! ===== the law's walk ===== -/
abbrev yLn (nm : String) : MethodName := ⟨RL, nm, "([I)Z"⟩
abbrev LL (nm : String) (l : Launch) (b L : Nat) (xs : Nat → Int32) (σ : aw_S) (pc : Nat) (i : Int) (st : List Value) : Prop := LW (XS b L xs) l (yLn nm) cL_law 4 (some .boolean) 15 552 600000 7302250 SH 209 21131 σ pc [some (.ref 1000030), some (.ref 0), some (.ref 171), some (.int (jI i))] st
set_option maxRecDepth 100000 in
theorem lo_feed {nm : String} {l : Launch} {b L : Nat} {xs : Nat → Int32} {σ : aw_S} {N : Int} (hI : INV σ N) (hN : 0 ≤ N ∧ N ≤ 999) (hi : 6 * N + 6 ≤ (L : Int)) (hL3 : L ≤ 3072) (kk : ∀ σ' : aw_S, INV σ' (N + 1) → LL nm l b L xs σ' 1303 (6 * N) []) : LL nm l b L xs σ 188 (6 * N) [] := by
  refine l_ald1 eL_law_188 ?_
  refine l_ald0 eL_law_189 ?_
  refine l_ild3 eL_law_190 ?_
  refine l_iconst eL_law_191 ?_
  refine l_iadd eL_law_192 ?_
  refine l_sld eL_law_193 ⟨by omega, by omega⟩ hL3 ?_
  refine l_ald0 eL_law_194 ?_
  refine l_ild3 eL_law_195 ?_
  refine l_iconst eL_law_196 ?_
  refine l_iadd eL_law_197 ?_
  refine l_sld eL_law_198 ⟨by omega, by omega⟩ hL3 ?_
  refine l_ald0 eL_law_199 ?_
  refine l_ild3 eL_law_200 ?_
  refine l_iconst eL_law_201 ?_
  refine l_iadd eL_law_202 ?_
  refine l_sld eL_law_203 ⟨by omega, by omega⟩ hL3 ?_
  refine l_ald0 eL_law_204 ?_
  refine l_ild3 eL_law_205 ?_
  refine l_iconst eL_law_206 ?_
  refine l_iadd eL_law_207 ?_
  refine l_sld eL_law_208 ⟨by omega, by omega⟩ hL3 ?_
  refine l_ald0 eL_law_209 ?_
  refine l_ild3 eL_law_210 ?_
  refine l_iconst eL_law_211 ?_
  refine l_iadd eL_law_212 ?_
  refine l_sld eL_law_213 ⟨by omega, by omega⟩ hL3 ?_
  refine l_cV5 eL_law_214 lk_L_13 mV_X9_feed sh_0 ⟨_, rfl, rfl⟩ mt_X9_feed rfl rfl rfl rfl rfl rfl rfl rfl rfl (AW.mono (op_feed hI hN (hr := ⟨xI_r _ _, xI_r _ _, xI_r _ _, xI_r _ _, xI_r _ _⟩)) (fun r1 σ1 h1 => ?_))
  obtain ⟨vv, rfl, h2⟩ := h1
  show LL nm l b L xs σ1 217 (6 * N) [.int (jI vv)]
  refine l_ald2 eL_law_217 ?_
  refine l_ald0 eL_law_218 ?_
  refine l_ild3 eL_law_219 ?_
  refine l_iconst eL_law_220 ?_
  refine l_iadd eL_law_221 ?_
  refine l_sld eL_law_222 ⟨by omega, by omega⟩ hL3 ?_
  refine l_ald0 eL_law_223 ?_
  refine l_ild3 eL_law_224 ?_
  refine l_iconst eL_law_225 ?_
  refine l_iadd eL_law_226 ?_
  refine l_sld eL_law_227 ⟨by omega, by omega⟩ hL3 ?_
  refine l_ald0 eL_law_228 ?_
  refine l_ild3 eL_law_229 ?_
  refine l_iconst eL_law_230 ?_
  refine l_iadd eL_law_231 ?_
  refine l_sld eL_law_232 ⟨by omega, by omega⟩ hL3 ?_
  refine l_ald0 eL_law_233 ?_
  refine l_ild3 eL_law_234 ?_
  refine l_iconst eL_law_235 ?_
  refine l_iadd eL_law_236 ?_
  refine l_sld eL_law_237 ⟨by omega, by omega⟩ hL3 ?_
  refine l_ald0 eL_law_238 ?_
  refine l_ild3 eL_law_239 ?_
  refine l_iconst eL_law_240 ?_
  refine l_iadd eL_law_241 ?_
  refine l_sld eL_law_242 ⟨by omega, by omega⟩ hL3 ?_
  refine l_cV5 eL_law_243 lk_L_17 mV_X10_feed sh_171 ⟨_, rfl, rfl⟩ mt_X10_feed rfl rfl rfl rfl rfl rfl rfl rfl rfl (AW.mono h2 (fun r2 σ2 h3 => ?_))
  obtain ⟨rfl, h4⟩ := h3
  show LL nm l b L xs σ2 246 (6 * N) [.int (jI vv), .int (jI vv)]
  exact l_icmp_same 1303 eL_law_246 rfl (kk σ2 h4)
set_option maxRecDepth 100000 in
theorem lo_end {nm : String} {l : Launch} {b L : Nat} {xs : Nat → Int32} {σ : aw_S} {N : Int} (hI : INV σ N) (hN : 0 ≤ N ∧ N ≤ 999) (hi : 6 * N + 6 ≤ (L : Int)) (hL3 : L ≤ 3072) (kk : ∀ σ' : aw_S, INV σ' (N + 1) → LL nm l b L xs σ' 1303 (6 * N) []) : LL nm l b L xs σ 251 (6 * N) [] := by
  refine l_ald1 eL_law_251 ?_
  refine l_ald0 eL_law_252 ?_
  refine l_ild3 eL_law_253 ?_
  refine l_iconst eL_law_254 ?_
  refine l_iadd eL_law_255 ?_
  refine l_sld eL_law_256 ⟨by omega, by omega⟩ hL3 ?_
  refine l_cV1 eL_law_257 lk_L_18 mV_X9_end sh_0 ⟨_, rfl, rfl⟩ mt_X9_end rfl rfl rfl rfl rfl (AW.mono (op_end hI hN (hr := xI_r _ _)) (fun r1 σ1 h1 => ?_))
  obtain ⟨vv, rfl, h2⟩ := h1
  show LL nm l b L xs σ1 260 (6 * N) [.int (jI vv)]
  refine l_ald2 eL_law_260 ?_
  refine l_ald0 eL_law_261 ?_
  refine l_ild3 eL_law_262 ?_
  refine l_iconst eL_law_263 ?_
  refine l_iadd eL_law_264 ?_
  refine l_sld eL_law_265 ⟨by omega, by omega⟩ hL3 ?_
  refine l_cV1 eL_law_266 lk_L_22 mV_X10_end sh_171 ⟨_, rfl, rfl⟩ mt_X10_end rfl rfl rfl rfl rfl (AW.mono h2 (fun r2 σ2 h3 => ?_))
  obtain ⟨rfl, h4⟩ := h3
  show LL nm l b L xs σ2 269 (6 * N) [.int (jI vv), .int (jI vv)]
  exact l_icmp_same 1303 eL_law_269 rfl (kk σ2 h4)
set_option maxRecDepth 100000 in
theorem lo_fault {nm : String} {l : Launch} {b L : Nat} {xs : Nat → Int32} {σ : aw_S} {N : Int} (hI : INV σ N) (hN : 0 ≤ N ∧ N ≤ 999) (hi : 6 * N + 6 ≤ (L : Int)) (hL3 : L ≤ 3072) (kk : ∀ σ' : aw_S, INV σ' (N + 1) → LL nm l b L xs σ' 1303 (6 * N) []) : LL nm l b L xs σ 274 (6 * N) [] := by
  refine l_ald1 eL_law_274 ?_
  refine l_cV0 eL_law_275 lk_L_23 mV_X9_fault sh_0 ⟨_, rfl, rfl⟩ mt_X9_fault rfl  rfl rfl rfl (AW.mono (op_fault hI hN ) (fun r1 σ1 h1 => ?_))
  obtain ⟨vv, rfl, h2⟩ := h1
  show LL nm l b L xs σ1 278 (6 * N) [.int (jI vv)]
  refine l_ald2 eL_law_278 ?_
  refine l_cV0 eL_law_279 lk_L_27 mV_X10_fault sh_171 ⟨_, rfl, rfl⟩ mt_X10_fault rfl  rfl rfl rfl (AW.mono h2 (fun r2 σ2 h3 => ?_))
  obtain ⟨rfl, h4⟩ := h3
  show LL nm l b L xs σ2 282 (6 * N) [.int (jI vv), .int (jI vv)]
  exact l_icmp_same 1303 eL_law_282 rfl (kk σ2 h4)
set_option maxRecDepth 100000 in
theorem lo_city {nm : String} {l : Launch} {b L : Nat} {xs : Nat → Int32} {σ : aw_S} {N : Int} (hI : INV σ N) (hN : 0 ≤ N ∧ N ≤ 999) (hi : 6 * N + 6 ≤ (L : Int)) (hL3 : L ≤ 3072) (kk : ∀ σ' : aw_S, INV σ' (N + 1) → LL nm l b L xs σ' 1303 (6 * N) []) : LL nm l b L xs σ 287 (6 * N) [] := by
  refine l_ald1 eL_law_287 ?_
  refine l_cV0 eL_law_288 lk_L_28 mV_X9_city sh_0 ⟨_, rfl, rfl⟩ mt_X9_city rfl  rfl rfl rfl (AW.mono (op_city hI hN ) (fun r1 σ1 h1 => ?_))
  obtain ⟨vv, rfl, h2⟩ := h1
  show LL nm l b L xs σ1 291 (6 * N) [.int (jI vv)]
  refine l_ald2 eL_law_291 ?_
  refine l_cV0 eL_law_292 lk_L_31 mV_X10_city sh_171 ⟨_, rfl, rfl⟩ mt_X10_city rfl  rfl rfl rfl (AW.mono h2 (fun r2 σ2 h3 => ?_))
  obtain ⟨rfl, h4⟩ := h3
  show LL nm l b L xs σ2 295 (6 * N) [.int (jI vv), .int (jI vv)]
  exact l_icmp_same 1303 eL_law_295 rfl (kk σ2 h4)
set_option maxRecDepth 100000 in
theorem lo_rank {nm : String} {l : Launch} {b L : Nat} {xs : Nat → Int32} {σ : aw_S} {N : Int} (hI : INV σ N) (hN : 0 ≤ N ∧ N ≤ 999) (hi : 6 * N + 6 ≤ (L : Int)) (hL3 : L ≤ 3072) (kk : ∀ σ' : aw_S, INV σ' (N + 1) → LL nm l b L xs σ' 1303 (6 * N) []) : LL nm l b L xs σ 300 (6 * N) [] := by
  refine l_ald1 eL_law_300 ?_
  refine l_ald0 eL_law_301 ?_
  refine l_ild3 eL_law_302 ?_
  refine l_iconst eL_law_303 ?_
  refine l_iadd eL_law_304 ?_
  refine l_sld eL_law_305 ⟨by omega, by omega⟩ hL3 ?_
  refine l_ald0 eL_law_306 ?_
  refine l_ild3 eL_law_307 ?_
  refine l_iconst eL_law_308 ?_
  refine l_iadd eL_law_309 ?_
  refine l_sld eL_law_310 ⟨by omega, by omega⟩ hL3 ?_
  refine l_cV2 eL_law_311 lk_L_32 mV_X9_rank sh_0 ⟨_, rfl, rfl⟩ mt_X9_rank rfl rfl rfl rfl rfl rfl (AW.mono (op_rank hI hN (hr := ⟨xI_r _ _, xI_r _ _⟩)) (fun r1 σ1 h1 => ?_))
  obtain ⟨vv, rfl, h2⟩ := h1
  show LL nm l b L xs σ1 314 (6 * N) [.int (jI vv)]
  refine l_ald2 eL_law_314 ?_
  refine l_ald0 eL_law_315 ?_
  refine l_ild3 eL_law_316 ?_
  refine l_iconst eL_law_317 ?_
  refine l_iadd eL_law_318 ?_
  refine l_sld eL_law_319 ⟨by omega, by omega⟩ hL3 ?_
  refine l_ald0 eL_law_320 ?_
  refine l_ild3 eL_law_321 ?_
  refine l_iconst eL_law_322 ?_
  refine l_iadd eL_law_323 ?_
  refine l_sld eL_law_324 ⟨by omega, by omega⟩ hL3 ?_
  refine l_cV2 eL_law_325 lk_L_36 mV_X10_rank sh_171 ⟨_, rfl, rfl⟩ mt_X10_rank rfl rfl rfl rfl rfl rfl (AW.mono h2 (fun r2 σ2 h3 => ?_))
  obtain ⟨rfl, h4⟩ := h3
  show LL nm l b L xs σ2 328 (6 * N) [.int (jI vv), .int (jI vv)]
  exact l_icmp_same 1303 eL_law_328 rfl (kk σ2 h4)
set_option maxRecDepth 100000 in
theorem lo_may {nm : String} {l : Launch} {b L : Nat} {xs : Nat → Int32} {σ : aw_S} {N : Int} (hI : INV σ N) (hN : 0 ≤ N ∧ N ≤ 999) (hi : 6 * N + 6 ≤ (L : Int)) (hL3 : L ≤ 3072) (kk : ∀ σ' : aw_S, INV σ' (N + 1) → LL nm l b L xs σ' 1303 (6 * N) []) : LL nm l b L xs σ 333 (6 * N) [] := by
  refine l_ald1 eL_law_333 ?_
  refine l_ald0 eL_law_334 ?_
  refine l_ild3 eL_law_335 ?_
  refine l_iconst eL_law_336 ?_
  refine l_iadd eL_law_337 ?_
  refine l_sld eL_law_338 ⟨by omega, by omega⟩ hL3 ?_
  refine l_ald0 eL_law_339 ?_
  refine l_ild3 eL_law_340 ?_
  refine l_iconst eL_law_341 ?_
  refine l_iadd eL_law_342 ?_
  refine l_sld eL_law_343 ⟨by omega, by omega⟩ hL3 ?_
  refine l_ald0 eL_law_344 ?_
  refine l_ild3 eL_law_345 ?_
  refine l_iconst eL_law_346 ?_
  refine l_iadd eL_law_347 ?_
  refine l_sld eL_law_348 ⟨by omega, by omega⟩ hL3 ?_
  refine l_cV3 eL_law_349 lk_L_37 mV_X9_may sh_0 ⟨_, rfl, rfl⟩ mt_X9_may rfl rfl rfl rfl rfl rfl rfl (AW.mono (op_may hI hN (hr := ⟨xI_r _ _, xI_r _ _, xI_r _ _⟩)) (fun r1 σ1 h1 => ?_))
  obtain ⟨vv, rfl, h2⟩ := h1
  show LL nm l b L xs σ1 352 (6 * N) [.int (jI vv)]
  refine l_ald2 eL_law_352 ?_
  refine l_ald0 eL_law_353 ?_
  refine l_ild3 eL_law_354 ?_
  refine l_iconst eL_law_355 ?_
  refine l_iadd eL_law_356 ?_
  refine l_sld eL_law_357 ⟨by omega, by omega⟩ hL3 ?_
  refine l_ald0 eL_law_358 ?_
  refine l_ild3 eL_law_359 ?_
  refine l_iconst eL_law_360 ?_
  refine l_iadd eL_law_361 ?_
  refine l_sld eL_law_362 ⟨by omega, by omega⟩ hL3 ?_
  refine l_ald0 eL_law_363 ?_
  refine l_ild3 eL_law_364 ?_
  refine l_iconst eL_law_365 ?_
  refine l_iadd eL_law_366 ?_
  refine l_sld eL_law_367 ⟨by omega, by omega⟩ hL3 ?_
  refine l_cV3 eL_law_368 lk_L_41 mV_X10_may sh_171 ⟨_, rfl, rfl⟩ mt_X10_may rfl rfl rfl rfl rfl rfl rfl (AW.mono h2 (fun r2 σ2 h3 => ?_))
  obtain ⟨rfl, h4⟩ := h3
  show LL nm l b L xs σ2 371 (6 * N) [.int (jI vv), .int (jI vv)]
  exact l_icmp_same 1303 eL_law_371 rfl (kk σ2 h4)
set_option maxRecDepth 100000 in
theorem lo_price {nm : String} {l : Launch} {b L : Nat} {xs : Nat → Int32} {σ : aw_S} {N : Int} (hI : INV σ N) (hN : 0 ≤ N ∧ N ≤ 999) (hi : 6 * N + 6 ≤ (L : Int)) (hL3 : L ≤ 3072) (kk : ∀ σ' : aw_S, INV σ' (N + 1) → LL nm l b L xs σ' 1303 (6 * N) []) : LL nm l b L xs σ 376 (6 * N) [] := by
  refine l_ald1 eL_law_376 ?_
  refine l_ald0 eL_law_377 ?_
  refine l_ild3 eL_law_378 ?_
  refine l_iconst eL_law_379 ?_
  refine l_iadd eL_law_380 ?_
  refine l_sld eL_law_381 ⟨by omega, by omega⟩ hL3 ?_
  refine l_ald0 eL_law_382 ?_
  refine l_ild3 eL_law_383 ?_
  refine l_iconst eL_law_384 ?_
  refine l_iadd eL_law_385 ?_
  refine l_sld eL_law_386 ⟨by omega, by omega⟩ hL3 ?_
  refine l_cV2 eL_law_387 lk_L_42 mV_X9_price sh_0 ⟨_, rfl, rfl⟩ mt_X9_price rfl rfl rfl rfl rfl rfl (AW.mono (op_price hI hN (hr := ⟨xI_r _ _, xI_r _ _⟩)) (fun r1 σ1 h1 => ?_))
  obtain ⟨vv, rfl, h2⟩ := h1
  show LL nm l b L xs σ1 390 (6 * N) [.int (jI vv)]
  refine l_ald2 eL_law_390 ?_
  refine l_ald0 eL_law_391 ?_
  refine l_ild3 eL_law_392 ?_
  refine l_iconst eL_law_393 ?_
  refine l_iadd eL_law_394 ?_
  refine l_sld eL_law_395 ⟨by omega, by omega⟩ hL3 ?_
  refine l_ald0 eL_law_396 ?_
  refine l_ild3 eL_law_397 ?_
  refine l_iconst eL_law_398 ?_
  refine l_iadd eL_law_399 ?_
  refine l_sld eL_law_400 ⟨by omega, by omega⟩ hL3 ?_
  refine l_cV2 eL_law_401 lk_L_45 mV_X10_price sh_171 ⟨_, rfl, rfl⟩ mt_X10_price rfl rfl rfl rfl rfl rfl (AW.mono h2 (fun r2 σ2 h3 => ?_))
  obtain ⟨rfl, h4⟩ := h3
  show LL nm l b L xs σ2 404 (6 * N) [.int (jI vv), .int (jI vv)]
  exact l_icmp_same 1303 eL_law_404 rfl (kk σ2 h4)
set_option maxRecDepth 100000 in
theorem lo_cab {nm : String} {l : Launch} {b L : Nat} {xs : Nat → Int32} {σ : aw_S} {N : Int} (hI : INV σ N) (hN : 0 ≤ N ∧ N ≤ 999) (hi : 6 * N + 6 ≤ (L : Int)) (hL3 : L ≤ 3072) (kk : ∀ σ' : aw_S, INV σ' (N + 1) → LL nm l b L xs σ' 1303 (6 * N) []) : LL nm l b L xs σ 409 (6 * N) [] := by
  refine l_ald1 eL_law_409 ?_
  refine l_ald0 eL_law_410 ?_
  refine l_ild3 eL_law_411 ?_
  refine l_iconst eL_law_412 ?_
  refine l_iadd eL_law_413 ?_
  refine l_sld eL_law_414 ⟨by omega, by omega⟩ hL3 ?_
  refine l_ald0 eL_law_415 ?_
  refine l_ild3 eL_law_416 ?_
  refine l_iconst eL_law_417 ?_
  refine l_iadd eL_law_418 ?_
  refine l_sld eL_law_419 ⟨by omega, by omega⟩ hL3 ?_
  refine l_cV2 eL_law_420 lk_L_46 mV_X9_cab sh_0 ⟨_, rfl, rfl⟩ mt_X9_cab rfl rfl rfl rfl rfl rfl (AW.mono (op_cab hI hN (hr := ⟨xI_r _ _, xI_r _ _⟩)) (fun r1 σ1 h1 => ?_))
  obtain ⟨vv, rfl, h2⟩ := h1
  show LL nm l b L xs σ1 423 (6 * N) [.int (jI vv)]
  refine l_ald2 eL_law_423 ?_
  refine l_ald0 eL_law_424 ?_
  refine l_ild3 eL_law_425 ?_
  refine l_iconst eL_law_426 ?_
  refine l_iadd eL_law_427 ?_
  refine l_sld eL_law_428 ⟨by omega, by omega⟩ hL3 ?_
  refine l_ald0 eL_law_429 ?_
  refine l_ild3 eL_law_430 ?_
  refine l_iconst eL_law_431 ?_
  refine l_iadd eL_law_432 ?_
  refine l_sld eL_law_433 ⟨by omega, by omega⟩ hL3 ?_
  refine l_cV2 eL_law_434 lk_L_49 mV_X10_cab sh_171 ⟨_, rfl, rfl⟩ mt_X10_cab rfl rfl rfl rfl rfl rfl (AW.mono h2 (fun r2 σ2 h3 => ?_))
  obtain ⟨rfl, h4⟩ := h3
  show LL nm l b L xs σ2 437 (6 * N) [.int (jI vv), .int (jI vv)]
  exact l_icmp_same 1303 eL_law_437 rfl (kk σ2 h4)
set_option maxRecDepth 100000 in
theorem lo_of {nm : String} {l : Launch} {b L : Nat} {xs : Nat → Int32} {σ : aw_S} {N : Int} (hI : INV σ N) (hN : 0 ≤ N ∧ N ≤ 999) (hi : 6 * N + 6 ≤ (L : Int)) (hL3 : L ≤ 3072) (kk : ∀ σ' : aw_S, INV σ' (N + 1) → LL nm l b L xs σ' 1303 (6 * N) []) : LL nm l b L xs σ 442 (6 * N) [] := by
  refine l_ald1 eL_law_442 ?_
  refine l_ald0 eL_law_443 ?_
  refine l_ild3 eL_law_444 ?_
  refine l_iconst eL_law_445 ?_
  refine l_iadd eL_law_446 ?_
  refine l_sld eL_law_447 ⟨by omega, by omega⟩ hL3 ?_
  refine l_ald0 eL_law_448 ?_
  refine l_ild3 eL_law_449 ?_
  refine l_iconst eL_law_450 ?_
  refine l_iadd eL_law_451 ?_
  refine l_sld eL_law_452 ⟨by omega, by omega⟩ hL3 ?_
  refine l_cV2 eL_law_453 lk_L_50 mV_X9_of sh_0 ⟨_, rfl, rfl⟩ mt_X9_of rfl rfl rfl rfl rfl rfl (AW.mono (op_of hI hN (hr := ⟨xI_r _ _, xI_r _ _⟩)) (fun r1 σ1 h1 => ?_))
  obtain ⟨vv, rfl, h2⟩ := h1
  show LL nm l b L xs σ1 456 (6 * N) [.int (jI vv)]
  refine l_ald2 eL_law_456 ?_
  refine l_ald0 eL_law_457 ?_
  refine l_ild3 eL_law_458 ?_
  refine l_iconst eL_law_459 ?_
  refine l_iadd eL_law_460 ?_
  refine l_sld eL_law_461 ⟨by omega, by omega⟩ hL3 ?_
  refine l_ald0 eL_law_462 ?_
  refine l_ild3 eL_law_463 ?_
  refine l_iconst eL_law_464 ?_
  refine l_iadd eL_law_465 ?_
  refine l_sld eL_law_466 ⟨by omega, by omega⟩ hL3 ?_
  refine l_cV2 eL_law_467 lk_L_53 mV_X10_of sh_171 ⟨_, rfl, rfl⟩ mt_X10_of rfl rfl rfl rfl rfl rfl (AW.mono h2 (fun r2 σ2 h3 => ?_))
  obtain ⟨rfl, h4⟩ := h3
  show LL nm l b L xs σ2 470 (6 * N) [.int (jI vv), .int (jI vv)]
  exact l_icmp_same 1303 eL_law_470 rfl (kk σ2 h4)
set_option maxRecDepth 100000 in
theorem lo_drive {nm : String} {l : Launch} {b L : Nat} {xs : Nat → Int32} {σ : aw_S} {N : Int} (hI : INV σ N) (hN : 0 ≤ N ∧ N ≤ 999) (hi : 6 * N + 6 ≤ (L : Int)) (hL3 : L ≤ 3072) (kk : ∀ σ' : aw_S, INV σ' (N + 1) → LL nm l b L xs σ' 1303 (6 * N) []) : LL nm l b L xs σ 475 (6 * N) [] := by
  refine l_ald1 eL_law_475 ?_
  refine l_ald0 eL_law_476 ?_
  refine l_ild3 eL_law_477 ?_
  refine l_iconst eL_law_478 ?_
  refine l_iadd eL_law_479 ?_
  refine l_sld eL_law_480 ⟨by omega, by omega⟩ hL3 ?_
  refine l_ald0 eL_law_481 ?_
  refine l_ild3 eL_law_482 ?_
  refine l_iconst eL_law_483 ?_
  refine l_iadd eL_law_484 ?_
  refine l_sld eL_law_485 ⟨by omega, by omega⟩ hL3 ?_
  refine l_cV2 eL_law_486 lk_L_54 mV_X9_drive sh_0 ⟨_, rfl, rfl⟩ mt_X9_drive rfl rfl rfl rfl rfl rfl (AW.mono (op_drive hI hN (hr := ⟨xI_r _ _, xI_r _ _⟩)) (fun r1 σ1 h1 => ?_))
  obtain ⟨vv, rfl, h2⟩ := h1
  show LL nm l b L xs σ1 489 (6 * N) [.int (jI vv)]
  refine l_ald2 eL_law_489 ?_
  refine l_ald0 eL_law_490 ?_
  refine l_ild3 eL_law_491 ?_
  refine l_iconst eL_law_492 ?_
  refine l_iadd eL_law_493 ?_
  refine l_sld eL_law_494 ⟨by omega, by omega⟩ hL3 ?_
  refine l_ald0 eL_law_495 ?_
  refine l_ild3 eL_law_496 ?_
  refine l_iconst eL_law_497 ?_
  refine l_iadd eL_law_498 ?_
  refine l_sld eL_law_499 ⟨by omega, by omega⟩ hL3 ?_
  refine l_cV2 eL_law_500 lk_L_58 mV_X10_drive sh_171 ⟨_, rfl, rfl⟩ mt_X10_drive rfl rfl rfl rfl rfl rfl (AW.mono h2 (fun r2 σ2 h3 => ?_))
  obtain ⟨rfl, h4⟩ := h3
  show LL nm l b L xs σ2 503 (6 * N) [.int (jI vv), .int (jI vv)]
  exact l_icmp_same 1303 eL_law_503 rfl (kk σ2 h4)
set_option maxRecDepth 100000 in
theorem lo_row {nm : String} {l : Launch} {b L : Nat} {xs : Nat → Int32} {σ : aw_S} {N : Int} (hI : INV σ N) (hN : 0 ≤ N ∧ N ≤ 999) (hi : 6 * N + 6 ≤ (L : Int)) (hL3 : L ≤ 3072) (kk : ∀ σ' : aw_S, INV σ' (N + 1) → LL nm l b L xs σ' 1303 (6 * N) []) : LL nm l b L xs σ 508 (6 * N) [] := by
  refine l_ald1 eL_law_508 ?_
  refine l_ald0 eL_law_509 ?_
  refine l_ild3 eL_law_510 ?_
  refine l_iconst eL_law_511 ?_
  refine l_iadd eL_law_512 ?_
  refine l_sld eL_law_513 ⟨by omega, by omega⟩ hL3 ?_
  refine l_ald0 eL_law_514 ?_
  refine l_ild3 eL_law_515 ?_
  refine l_iconst eL_law_516 ?_
  refine l_iadd eL_law_517 ?_
  refine l_sld eL_law_518 ⟨by omega, by omega⟩ hL3 ?_
  refine l_cV2 eL_law_519 lk_L_59 mV_X9_row sh_0 ⟨_, rfl, rfl⟩ mt_X9_row rfl rfl rfl rfl rfl rfl (AW.mono (op_row hI hN (hr := ⟨xI_r _ _, xI_r _ _⟩)) (fun r1 σ1 h1 => ?_))
  obtain ⟨vv, rfl, h2⟩ := h1
  show LL nm l b L xs σ1 522 (6 * N) [.int (jI vv)]
  refine l_ald2 eL_law_522 ?_
  refine l_ald0 eL_law_523 ?_
  refine l_ild3 eL_law_524 ?_
  refine l_iconst eL_law_525 ?_
  refine l_iadd eL_law_526 ?_
  refine l_sld eL_law_527 ⟨by omega, by omega⟩ hL3 ?_
  refine l_ald0 eL_law_528 ?_
  refine l_ild3 eL_law_529 ?_
  refine l_iconst eL_law_530 ?_
  refine l_iadd eL_law_531 ?_
  refine l_sld eL_law_532 ⟨by omega, by omega⟩ hL3 ?_
  refine l_cV2 eL_law_533 lk_L_62 mV_X10_row sh_171 ⟨_, rfl, rfl⟩ mt_X10_row rfl rfl rfl rfl rfl rfl (AW.mono h2 (fun r2 σ2 h3 => ?_))
  obtain ⟨rfl, h4⟩ := h3
  show LL nm l b L xs σ2 536 (6 * N) [.int (jI vv), .int (jI vv)]
  exact l_icmp_same 1303 eL_law_536 rfl (kk σ2 h4)
set_option maxRecDepth 100000 in
theorem lo_take {nm : String} {l : Launch} {b L : Nat} {xs : Nat → Int32} {σ : aw_S} {N : Int} (hI : INV σ N) (hN : 0 ≤ N ∧ N ≤ 999) (hi : 6 * N + 6 ≤ (L : Int)) (hL3 : L ≤ 3072) (kk : ∀ σ' : aw_S, INV σ' (N + 1) → LL nm l b L xs σ' 1303 (6 * N) []) : LL nm l b L xs σ 541 (6 * N) [] := by
  refine l_ald1 eL_law_541 ?_
  refine l_ald0 eL_law_542 ?_
  refine l_ild3 eL_law_543 ?_
  refine l_iconst eL_law_544 ?_
  refine l_iadd eL_law_545 ?_
  refine l_sld eL_law_546 ⟨by omega, by omega⟩ hL3 ?_
  refine l_ald0 eL_law_547 ?_
  refine l_ild3 eL_law_548 ?_
  refine l_iconst eL_law_549 ?_
  refine l_iadd eL_law_550 ?_
  refine l_sld eL_law_551 ⟨by omega, by omega⟩ hL3 ?_
  refine l_ald0 eL_law_552 ?_
  refine l_ild3 eL_law_553 ?_
  refine l_iconst eL_law_554 ?_
  refine l_iadd eL_law_555 ?_
  refine l_sld eL_law_556 ⟨by omega, by omega⟩ hL3 ?_
  refine l_cV3 eL_law_557 lk_L_63 mV_X9_take sh_0 ⟨_, rfl, rfl⟩ mt_X9_take rfl rfl rfl rfl rfl rfl rfl (AW.mono (op_take hI hN (hr := ⟨xI_r _ _, xI_r _ _, xI_r _ _⟩)) (fun r1 σ1 h1 => ?_))
  obtain ⟨vv, rfl, h2⟩ := h1
  show LL nm l b L xs σ1 560 (6 * N) [.int (jI vv)]
  refine l_ald2 eL_law_560 ?_
  refine l_ald0 eL_law_561 ?_
  refine l_ild3 eL_law_562 ?_
  refine l_iconst eL_law_563 ?_
  refine l_iadd eL_law_564 ?_
  refine l_sld eL_law_565 ⟨by omega, by omega⟩ hL3 ?_
  refine l_ald0 eL_law_566 ?_
  refine l_ild3 eL_law_567 ?_
  refine l_iconst eL_law_568 ?_
  refine l_iadd eL_law_569 ?_
  refine l_sld eL_law_570 ⟨by omega, by omega⟩ hL3 ?_
  refine l_ald0 eL_law_571 ?_
  refine l_ild3 eL_law_572 ?_
  refine l_iconst eL_law_573 ?_
  refine l_iadd eL_law_574 ?_
  refine l_sld eL_law_575 ⟨by omega, by omega⟩ hL3 ?_
  refine l_cV3 eL_law_576 lk_L_66 mV_X10_take sh_171 ⟨_, rfl, rfl⟩ mt_X10_take rfl rfl rfl rfl rfl rfl rfl (AW.mono h2 (fun r2 σ2 h3 => ?_))
  obtain ⟨rfl, h4⟩ := h3
  show LL nm l b L xs σ2 579 (6 * N) [.int (jI vv), .int (jI vv)]
  exact l_icmp_same 1303 eL_law_579 rfl (kk σ2 h4)
set_option maxRecDepth 100000 in
theorem lo_call {nm : String} {l : Launch} {b L : Nat} {xs : Nat → Int32} {σ : aw_S} {N : Int} (hI : INV σ N) (hN : 0 ≤ N ∧ N ≤ 999) (hi : 6 * N + 6 ≤ (L : Int)) (hL3 : L ≤ 3072) (kk : ∀ σ' : aw_S, INV σ' (N + 1) → LL nm l b L xs σ' 1303 (6 * N) []) : LL nm l b L xs σ 584 (6 * N) [] := by
  refine l_ald1 eL_law_584 ?_
  refine l_ald0 eL_law_585 ?_
  refine l_ild3 eL_law_586 ?_
  refine l_iconst eL_law_587 ?_
  refine l_iadd eL_law_588 ?_
  refine l_sld eL_law_589 ⟨by omega, by omega⟩ hL3 ?_
  refine l_ald0 eL_law_590 ?_
  refine l_ild3 eL_law_591 ?_
  refine l_iconst eL_law_592 ?_
  refine l_iadd eL_law_593 ?_
  refine l_sld eL_law_594 ⟨by omega, by omega⟩ hL3 ?_
  refine l_ald0 eL_law_595 ?_
  refine l_ild3 eL_law_596 ?_
  refine l_iconst eL_law_597 ?_
  refine l_iadd eL_law_598 ?_
  refine l_sld eL_law_599 ⟨by omega, by omega⟩ hL3 ?_
  refine l_cV3 eL_law_600 lk_L_67 mV_X9_call sh_0 ⟨_, rfl, rfl⟩ mt_X9_call rfl rfl rfl rfl rfl rfl rfl (AW.mono (op_call hI hN (hr := ⟨xI_r _ _, xI_r _ _, xI_r _ _⟩)) (fun r1 σ1 h1 => ?_))
  obtain ⟨vv, rfl, h2⟩ := h1
  show LL nm l b L xs σ1 603 (6 * N) [.int (jI vv)]
  refine l_ald2 eL_law_603 ?_
  refine l_ald0 eL_law_604 ?_
  refine l_ild3 eL_law_605 ?_
  refine l_iconst eL_law_606 ?_
  refine l_iadd eL_law_607 ?_
  refine l_sld eL_law_608 ⟨by omega, by omega⟩ hL3 ?_
  refine l_ald0 eL_law_609 ?_
  refine l_ild3 eL_law_610 ?_
  refine l_iconst eL_law_611 ?_
  refine l_iadd eL_law_612 ?_
  refine l_sld eL_law_613 ⟨by omega, by omega⟩ hL3 ?_
  refine l_ald0 eL_law_614 ?_
  refine l_ild3 eL_law_615 ?_
  refine l_iconst eL_law_616 ?_
  refine l_iadd eL_law_617 ?_
  refine l_sld eL_law_618 ⟨by omega, by omega⟩ hL3 ?_
  refine l_cV3 eL_law_619 lk_L_71 mV_X10_call sh_171 ⟨_, rfl, rfl⟩ mt_X10_call rfl rfl rfl rfl rfl rfl rfl (AW.mono h2 (fun r2 σ2 h3 => ?_))
  obtain ⟨rfl, h4⟩ := h3
  show LL nm l b L xs σ2 622 (6 * N) [.int (jI vv), .int (jI vv)]
  exact l_icmp_same 1303 eL_law_622 rfl (kk σ2 h4)
set_option maxRecDepth 100000 in
theorem lo_refuse {nm : String} {l : Launch} {b L : Nat} {xs : Nat → Int32} {σ : aw_S} {N : Int} (hI : INV σ N) (hN : 0 ≤ N ∧ N ≤ 999) (hi : 6 * N + 6 ≤ (L : Int)) (hL3 : L ≤ 3072) (kk : ∀ σ' : aw_S, INV σ' (N + 1) → LL nm l b L xs σ' 1303 (6 * N) []) : LL nm l b L xs σ 627 (6 * N) [] := by
  refine l_ald1 eL_law_627 ?_
  refine l_ald0 eL_law_628 ?_
  refine l_ild3 eL_law_629 ?_
  refine l_iconst eL_law_630 ?_
  refine l_iadd eL_law_631 ?_
  refine l_sld eL_law_632 ⟨by omega, by omega⟩ hL3 ?_
  refine l_cV1 eL_law_633 lk_L_72 mV_X9_refuse sh_0 ⟨_, rfl, rfl⟩ mt_X9_refuse rfl rfl rfl rfl rfl (AW.mono (op_refuse hI hN (hr := xI_r _ _)) (fun r1 σ1 h1 => ?_))
  obtain ⟨vv, rfl, h2⟩ := h1
  show LL nm l b L xs σ1 636 (6 * N) [.int (jI vv)]
  refine l_ald2 eL_law_636 ?_
  refine l_ald0 eL_law_637 ?_
  refine l_ild3 eL_law_638 ?_
  refine l_iconst eL_law_639 ?_
  refine l_iadd eL_law_640 ?_
  refine l_sld eL_law_641 ⟨by omega, by omega⟩ hL3 ?_
  refine l_cV1 eL_law_642 lk_L_76 mV_X10_refuse sh_171 ⟨_, rfl, rfl⟩ mt_X10_refuse rfl rfl rfl rfl rfl (AW.mono h2 (fun r2 σ2 h3 => ?_))
  obtain ⟨rfl, h4⟩ := h3
  show LL nm l b L xs σ2 645 (6 * N) [.int (jI vv), .int (jI vv)]
  exact l_icmp_same 1303 eL_law_645 rfl (kk σ2 h4)
set_option maxRecDepth 100000 in
theorem lo_change {nm : String} {l : Launch} {b L : Nat} {xs : Nat → Int32} {σ : aw_S} {N : Int} (hI : INV σ N) (hN : 0 ≤ N ∧ N ≤ 999) (hi : 6 * N + 6 ≤ (L : Int)) (hL3 : L ≤ 3072) (kk : ∀ σ' : aw_S, INV σ' (N + 1) → LL nm l b L xs σ' 1303 (6 * N) []) : LL nm l b L xs σ 650 (6 * N) [] := by
  refine l_ald1 eL_law_650 ?_
  refine l_ald0 eL_law_651 ?_
  refine l_ild3 eL_law_652 ?_
  refine l_iconst eL_law_653 ?_
  refine l_iadd eL_law_654 ?_
  refine l_sld eL_law_655 ⟨by omega, by omega⟩ hL3 ?_
  refine l_ald0 eL_law_656 ?_
  refine l_ild3 eL_law_657 ?_
  refine l_iconst eL_law_658 ?_
  refine l_iadd eL_law_659 ?_
  refine l_sld eL_law_660 ⟨by omega, by omega⟩ hL3 ?_
  refine l_cV2 eL_law_661 lk_L_77 mV_X9_change sh_0 ⟨_, rfl, rfl⟩ mt_X9_change rfl rfl rfl rfl rfl rfl (AW.mono (op_change hI hN (hr := ⟨xI_r _ _, xI_r _ _⟩)) (fun r1 σ1 h1 => ?_))
  obtain ⟨vv, rfl, h2⟩ := h1
  show LL nm l b L xs σ1 664 (6 * N) [.int (jI vv)]
  refine l_ald2 eL_law_664 ?_
  refine l_ald0 eL_law_665 ?_
  refine l_ild3 eL_law_666 ?_
  refine l_iconst eL_law_667 ?_
  refine l_iadd eL_law_668 ?_
  refine l_sld eL_law_669 ⟨by omega, by omega⟩ hL3 ?_
  refine l_ald0 eL_law_670 ?_
  refine l_ild3 eL_law_671 ?_
  refine l_iconst eL_law_672 ?_
  refine l_iadd eL_law_673 ?_
  refine l_sld eL_law_674 ⟨by omega, by omega⟩ hL3 ?_
  refine l_cV2 eL_law_675 lk_L_80 mV_X10_change sh_171 ⟨_, rfl, rfl⟩ mt_X10_change rfl rfl rfl rfl rfl rfl (AW.mono h2 (fun r2 σ2 h3 => ?_))
  obtain ⟨rfl, h4⟩ := h3
  show LL nm l b L xs σ2 678 (6 * N) [.int (jI vv), .int (jI vv)]
  exact l_icmp_same 1303 eL_law_678 rfl (kk σ2 h4)
set_option maxRecDepth 100000 in
theorem lo_go {nm : String} {l : Launch} {b L : Nat} {xs : Nat → Int32} {σ : aw_S} {N : Int} (hI : INV σ N) (hN : 0 ≤ N ∧ N ≤ 999) (hi : 6 * N + 6 ≤ (L : Int)) (hL3 : L ≤ 3072) (kk : ∀ σ' : aw_S, INV σ' (N + 1) → LL nm l b L xs σ' 1303 (6 * N) []) : LL nm l b L xs σ 683 (6 * N) [] := by
  refine l_ald1 eL_law_683 ?_
  refine l_ald0 eL_law_684 ?_
  refine l_ild3 eL_law_685 ?_
  refine l_iconst eL_law_686 ?_
  refine l_iadd eL_law_687 ?_
  refine l_sld eL_law_688 ⟨by omega, by omega⟩ hL3 ?_
  refine l_cV1 eL_law_689 lk_L_81 mV_X9_go sh_0 ⟨_, rfl, rfl⟩ mt_X9_go rfl rfl rfl rfl rfl (AW.mono (op_go hI hN (hr := xI_r _ _)) (fun r1 σ1 h1 => ?_))
  obtain ⟨vv, rfl, h2⟩ := h1
  show LL nm l b L xs σ1 692 (6 * N) [.int (jI vv)]
  refine l_ald2 eL_law_692 ?_
  refine l_ald0 eL_law_693 ?_
  refine l_ild3 eL_law_694 ?_
  refine l_iconst eL_law_695 ?_
  refine l_iadd eL_law_696 ?_
  refine l_sld eL_law_697 ⟨by omega, by omega⟩ hL3 ?_
  refine l_cV1 eL_law_698 lk_L_84 mV_X10_go sh_171 ⟨_, rfl, rfl⟩ mt_X10_go rfl rfl rfl rfl rfl (AW.mono h2 (fun r2 σ2 h3 => ?_))
  obtain ⟨rfl, h4⟩ := h3
  show LL nm l b L xs σ2 701 (6 * N) [.int (jI vv), .int (jI vv)]
  exact l_icmp_same 1303 eL_law_701 rfl (kk σ2 h4)
set_option maxRecDepth 100000 in
theorem lo_pass {nm : String} {l : Launch} {b L : Nat} {xs : Nat → Int32} {σ : aw_S} {N : Int} (hI : INV σ N) (hN : 0 ≤ N ∧ N ≤ 999) (hi : 6 * N + 6 ≤ (L : Int)) (hL3 : L ≤ 3072) (kk : ∀ σ' : aw_S, INV σ' (N + 1) → LL nm l b L xs σ' 1303 (6 * N) []) : LL nm l b L xs σ 706 (6 * N) [] := by
  refine l_ald1 eL_law_706 ?_
  refine l_ald0 eL_law_707 ?_
  refine l_ild3 eL_law_708 ?_
  refine l_iconst eL_law_709 ?_
  refine l_iadd eL_law_710 ?_
  refine l_sld eL_law_711 ⟨by omega, by omega⟩ hL3 ?_
  refine l_ald0 eL_law_712 ?_
  refine l_ild3 eL_law_713 ?_
  refine l_iconst eL_law_714 ?_
  refine l_iadd eL_law_715 ?_
  refine l_sld eL_law_716 ⟨by omega, by omega⟩ hL3 ?_
  refine l_cV2 eL_law_717 lk_L_85 mV_X9_pass sh_0 ⟨_, rfl, rfl⟩ mt_X9_pass rfl rfl rfl rfl rfl rfl (AW.mono (op_pass hI hN (hr := ⟨xI_r _ _, xI_r _ _⟩)) (fun r1 σ1 h1 => ?_))
  obtain ⟨vv, rfl, h2⟩ := h1
  show LL nm l b L xs σ1 720 (6 * N) [.int (jI vv)]
  refine l_ald2 eL_law_720 ?_
  refine l_ald0 eL_law_721 ?_
  refine l_ild3 eL_law_722 ?_
  refine l_iconst eL_law_723 ?_
  refine l_iadd eL_law_724 ?_
  refine l_sld eL_law_725 ⟨by omega, by omega⟩ hL3 ?_
  refine l_ald0 eL_law_726 ?_
  refine l_ild3 eL_law_727 ?_
  refine l_iconst eL_law_728 ?_
  refine l_iadd eL_law_729 ?_
  refine l_sld eL_law_730 ⟨by omega, by omega⟩ hL3 ?_
  refine l_cV2 eL_law_731 lk_L_88 mV_X10_pass sh_171 ⟨_, rfl, rfl⟩ mt_X10_pass rfl rfl rfl rfl rfl rfl (AW.mono h2 (fun r2 σ2 h3 => ?_))
  obtain ⟨rfl, h4⟩ := h3
  show LL nm l b L xs σ2 734 (6 * N) [.int (jI vv), .int (jI vv)]
  exact l_icmp_same 1303 eL_law_734 rfl (kk σ2 h4)
set_option maxRecDepth 100000 in
theorem lo_chance {nm : String} {l : Launch} {b L : Nat} {xs : Nat → Int32} {σ : aw_S} {N : Int} (hI : INV σ N) (hN : 0 ≤ N ∧ N ≤ 999) (hi : 6 * N + 6 ≤ (L : Int)) (hL3 : L ≤ 3072) (kk : ∀ σ' : aw_S, INV σ' (N + 1) → LL nm l b L xs σ' 1303 (6 * N) []) : LL nm l b L xs σ 739 (6 * N) [] := by
  refine l_ald1 eL_law_739 ?_
  refine l_ald0 eL_law_740 ?_
  refine l_ild3 eL_law_741 ?_
  refine l_iconst eL_law_742 ?_
  refine l_iadd eL_law_743 ?_
  refine l_sld eL_law_744 ⟨by omega, by omega⟩ hL3 ?_
  refine l_ald0 eL_law_745 ?_
  refine l_ild3 eL_law_746 ?_
  refine l_iconst eL_law_747 ?_
  refine l_iadd eL_law_748 ?_
  refine l_sld eL_law_749 ⟨by omega, by omega⟩ hL3 ?_
  refine l_ald0 eL_law_750 ?_
  refine l_ild3 eL_law_751 ?_
  refine l_iconst eL_law_752 ?_
  refine l_iadd eL_law_753 ?_
  refine l_sld eL_law_754 ⟨by omega, by omega⟩ hL3 ?_
  refine l_ald0 eL_law_755 ?_
  refine l_ild3 eL_law_756 ?_
  refine l_iconst eL_law_757 ?_
  refine l_iadd eL_law_758 ?_
  refine l_sld eL_law_759 ⟨by omega, by omega⟩ hL3 ?_
  refine l_cV4 eL_law_760 lk_L_89 mV_X9_chance sh_0 ⟨_, rfl, rfl⟩ mt_X9_chance rfl rfl rfl rfl rfl rfl rfl rfl (AW.mono (op_chance hI hN (hr := ⟨xI_r _ _, xI_r _ _, xI_r _ _, xI_r _ _⟩)) (fun r1 σ1 h1 => ?_))
  obtain ⟨vv, rfl, h2⟩ := h1
  show LL nm l b L xs σ1 763 (6 * N) [.int (jI vv)]
  refine l_ald2 eL_law_763 ?_
  refine l_ald0 eL_law_764 ?_
  refine l_ild3 eL_law_765 ?_
  refine l_iconst eL_law_766 ?_
  refine l_iadd eL_law_767 ?_
  refine l_sld eL_law_768 ⟨by omega, by omega⟩ hL3 ?_
  refine l_ald0 eL_law_769 ?_
  refine l_ild3 eL_law_770 ?_
  refine l_iconst eL_law_771 ?_
  refine l_iadd eL_law_772 ?_
  refine l_sld eL_law_773 ⟨by omega, by omega⟩ hL3 ?_
  refine l_ald0 eL_law_774 ?_
  refine l_ild3 eL_law_775 ?_
  refine l_iconst eL_law_776 ?_
  refine l_iadd eL_law_777 ?_
  refine l_sld eL_law_778 ⟨by omega, by omega⟩ hL3 ?_
  refine l_ald0 eL_law_779 ?_
  refine l_ild3 eL_law_780 ?_
  refine l_iconst eL_law_781 ?_
  refine l_iadd eL_law_782 ?_
  refine l_sld eL_law_783 ⟨by omega, by omega⟩ hL3 ?_
  refine l_cV4 eL_law_784 lk_L_93 mV_X10_chance sh_171 ⟨_, rfl, rfl⟩ mt_X10_chance rfl rfl rfl rfl rfl rfl rfl rfl (AW.mono h2 (fun r2 σ2 h3 => ?_))
  obtain ⟨rfl, h4⟩ := h3
  show LL nm l b L xs σ2 787 (6 * N) [.int (jI vv), .int (jI vv)]
  exact l_icmp_same 1303 eL_law_787 rfl (kk σ2 h4)
set_option maxRecDepth 100000 in
theorem lo_worth {nm : String} {l : Launch} {b L : Nat} {xs : Nat → Int32} {σ : aw_S} {N : Int} (hI : INV σ N) (hN : 0 ≤ N ∧ N ≤ 999) (hi : 6 * N + 6 ≤ (L : Int)) (hL3 : L ≤ 3072) (kk : ∀ σ' : aw_S, INV σ' (N + 1) → LL nm l b L xs σ' 1303 (6 * N) []) : LL nm l b L xs σ 792 (6 * N) [] := by
  refine l_ald1 eL_law_792 ?_
  refine l_ald0 eL_law_793 ?_
  refine l_ild3 eL_law_794 ?_
  refine l_iconst eL_law_795 ?_
  refine l_iadd eL_law_796 ?_
  refine l_sld eL_law_797 ⟨by omega, by omega⟩ hL3 ?_
  refine l_ald0 eL_law_798 ?_
  refine l_ild3 eL_law_799 ?_
  refine l_iconst eL_law_800 ?_
  refine l_iadd eL_law_801 ?_
  refine l_sld eL_law_802 ⟨by omega, by omega⟩ hL3 ?_
  refine l_ald0 eL_law_803 ?_
  refine l_ild3 eL_law_804 ?_
  refine l_iconst eL_law_805 ?_
  refine l_iadd eL_law_806 ?_
  refine l_sld eL_law_807 ⟨by omega, by omega⟩ hL3 ?_
  refine l_cV3 eL_law_808 lk_L_94 mV_X9_worth sh_0 ⟨_, rfl, rfl⟩ mt_X9_worth rfl rfl rfl rfl rfl rfl rfl (AW.mono (op_worth hI hN (hr := ⟨xI_r _ _, xI_r _ _, xI_r _ _⟩)) (fun r1 σ1 h1 => ?_))
  obtain ⟨vv, rfl, h2⟩ := h1
  show LL nm l b L xs σ1 811 (6 * N) [.int (jI vv)]
  refine l_ald2 eL_law_811 ?_
  refine l_ald0 eL_law_812 ?_
  refine l_ild3 eL_law_813 ?_
  refine l_iconst eL_law_814 ?_
  refine l_iadd eL_law_815 ?_
  refine l_sld eL_law_816 ⟨by omega, by omega⟩ hL3 ?_
  refine l_ald0 eL_law_817 ?_
  refine l_ild3 eL_law_818 ?_
  refine l_iconst eL_law_819 ?_
  refine l_iadd eL_law_820 ?_
  refine l_sld eL_law_821 ⟨by omega, by omega⟩ hL3 ?_
  refine l_ald0 eL_law_822 ?_
  refine l_ild3 eL_law_823 ?_
  refine l_iconst eL_law_824 ?_
  refine l_iadd eL_law_825 ?_
  refine l_sld eL_law_826 ⟨by omega, by omega⟩ hL3 ?_
  refine l_cV3 eL_law_827 lk_L_97 mV_X10_worth sh_171 ⟨_, rfl, rfl⟩ mt_X10_worth rfl rfl rfl rfl rfl rfl rfl (AW.mono h2 (fun r2 σ2 h3 => ?_))
  obtain ⟨rfl, h4⟩ := h3
  show LL nm l b L xs σ2 830 (6 * N) [.int (jI vv), .int (jI vv)]
  exact l_icmp_same 1303 eL_law_830 rfl (kk σ2 h4)
set_option maxRecDepth 100000 in
theorem lo_going {nm : String} {l : Launch} {b L : Nat} {xs : Nat → Int32} {σ : aw_S} {N : Int} (hI : INV σ N) (hN : 0 ≤ N ∧ N ≤ 999) (hi : 6 * N + 6 ≤ (L : Int)) (hL3 : L ≤ 3072) (kk : ∀ σ' : aw_S, INV σ' (N + 1) → LL nm l b L xs σ' 1303 (6 * N) []) : LL nm l b L xs σ 835 (6 * N) [] := by
  refine l_ald1 eL_law_835 ?_
  refine l_ald0 eL_law_836 ?_
  refine l_ild3 eL_law_837 ?_
  refine l_iconst eL_law_838 ?_
  refine l_iadd eL_law_839 ?_
  refine l_sld eL_law_840 ⟨by omega, by omega⟩ hL3 ?_
  refine l_ald0 eL_law_841 ?_
  refine l_ild3 eL_law_842 ?_
  refine l_iconst eL_law_843 ?_
  refine l_iadd eL_law_844 ?_
  refine l_sld eL_law_845 ⟨by omega, by omega⟩ hL3 ?_
  refine l_ald0 eL_law_846 ?_
  refine l_ild3 eL_law_847 ?_
  refine l_iconst eL_law_848 ?_
  refine l_iadd eL_law_849 ?_
  refine l_sld eL_law_850 ⟨by omega, by omega⟩ hL3 ?_
  refine l_cV3 eL_law_851 lk_L_98 mV_X9_going sh_0 ⟨_, rfl, rfl⟩ mt_X9_going rfl rfl rfl rfl rfl rfl rfl (AW.mono (op_going hI hN (hr := ⟨xI_r _ _, xI_r _ _, xI_r _ _⟩)) (fun r1 σ1 h1 => ?_))
  obtain ⟨vv, rfl, h2⟩ := h1
  show LL nm l b L xs σ1 854 (6 * N) [.int (jI vv)]
  refine l_ald2 eL_law_854 ?_
  refine l_ald0 eL_law_855 ?_
  refine l_ild3 eL_law_856 ?_
  refine l_iconst eL_law_857 ?_
  refine l_iadd eL_law_858 ?_
  refine l_sld eL_law_859 ⟨by omega, by omega⟩ hL3 ?_
  refine l_ald0 eL_law_860 ?_
  refine l_ild3 eL_law_861 ?_
  refine l_iconst eL_law_862 ?_
  refine l_iadd eL_law_863 ?_
  refine l_sld eL_law_864 ⟨by omega, by omega⟩ hL3 ?_
  refine l_ald0 eL_law_865 ?_
  refine l_ild3 eL_law_866 ?_
  refine l_iconst eL_law_867 ?_
  refine l_iadd eL_law_868 ?_
  refine l_sld eL_law_869 ⟨by omega, by omega⟩ hL3 ?_
  refine l_cV3 eL_law_870 lk_L_101 mV_X10_going sh_171 ⟨_, rfl, rfl⟩ mt_X10_going rfl rfl rfl rfl rfl rfl rfl (AW.mono h2 (fun r2 σ2 h3 => ?_))
  obtain ⟨rfl, h4⟩ := h3
  show LL nm l b L xs σ2 873 (6 * N) [.int (jI vv), .int (jI vv)]
  exact l_icmp_same 1303 eL_law_873 rfl (kk σ2 h4)
set_option maxRecDepth 100000 in
theorem lo_thumb {nm : String} {l : Launch} {b L : Nat} {xs : Nat → Int32} {σ : aw_S} {N : Int} (hI : INV σ N) (hN : 0 ≤ N ∧ N ≤ 999) (hi : 6 * N + 6 ≤ (L : Int)) (hL3 : L ≤ 3072) (kk : ∀ σ' : aw_S, INV σ' (N + 1) → LL nm l b L xs σ' 1303 (6 * N) []) : LL nm l b L xs σ 878 (6 * N) [] := by
  refine l_ald1 eL_law_878 ?_
  refine l_ald0 eL_law_879 ?_
  refine l_ild3 eL_law_880 ?_
  refine l_iconst eL_law_881 ?_
  refine l_iadd eL_law_882 ?_
  refine l_sld eL_law_883 ⟨by omega, by omega⟩ hL3 ?_
  refine l_ald0 eL_law_884 ?_
  refine l_ild3 eL_law_885 ?_
  refine l_iconst eL_law_886 ?_
  refine l_iadd eL_law_887 ?_
  refine l_sld eL_law_888 ⟨by omega, by omega⟩ hL3 ?_
  refine l_ald0 eL_law_889 ?_
  refine l_ild3 eL_law_890 ?_
  refine l_iconst eL_law_891 ?_
  refine l_iadd eL_law_892 ?_
  refine l_sld eL_law_893 ⟨by omega, by omega⟩ hL3 ?_
  refine l_ald0 eL_law_894 ?_
  refine l_ild3 eL_law_895 ?_
  refine l_iconst eL_law_896 ?_
  refine l_iadd eL_law_897 ?_
  refine l_sld eL_law_898 ⟨by omega, by omega⟩ hL3 ?_
  refine l_cV4 eL_law_899 lk_L_102 mV_X9_thumb sh_0 ⟨_, rfl, rfl⟩ mt_X9_thumb rfl rfl rfl rfl rfl rfl rfl rfl (AW.mono (op_thumb hI hN (hr := ⟨xI_r _ _, xI_r _ _, xI_r _ _, xI_r _ _⟩)) (fun r1 σ1 h1 => ?_))
  obtain ⟨vv, rfl, h2⟩ := h1
  show LL nm l b L xs σ1 902 (6 * N) [.int (jI vv)]
  refine l_ald2 eL_law_902 ?_
  refine l_ald0 eL_law_903 ?_
  refine l_ild3 eL_law_904 ?_
  refine l_iconst eL_law_905 ?_
  refine l_iadd eL_law_906 ?_
  refine l_sld eL_law_907 ⟨by omega, by omega⟩ hL3 ?_
  refine l_ald0 eL_law_908 ?_
  refine l_ild3 eL_law_909 ?_
  refine l_iconst eL_law_910 ?_
  refine l_iadd eL_law_911 ?_
  refine l_sld eL_law_912 ⟨by omega, by omega⟩ hL3 ?_
  refine l_ald0 eL_law_913 ?_
  refine l_ild3 eL_law_914 ?_
  refine l_iconst eL_law_915 ?_
  refine l_iadd eL_law_916 ?_
  refine l_sld eL_law_917 ⟨by omega, by omega⟩ hL3 ?_
  refine l_ald0 eL_law_918 ?_
  refine l_ild3 eL_law_919 ?_
  refine l_iconst eL_law_920 ?_
  refine l_iadd eL_law_921 ?_
  refine l_sld eL_law_922 ⟨by omega, by omega⟩ hL3 ?_
  refine l_cV4 eL_law_923 lk_L_106 mV_X10_thumb sh_171 ⟨_, rfl, rfl⟩ mt_X10_thumb rfl rfl rfl rfl rfl rfl rfl rfl (AW.mono h2 (fun r2 σ2 h3 => ?_))
  obtain ⟨rfl, h4⟩ := h3
  show LL nm l b L xs σ2 926 (6 * N) [.int (jI vv), .int (jI vv)]
  exact l_icmp_same 1303 eL_law_926 rfl (kk σ2 h4)
set_option maxRecDepth 100000 in
theorem lo_people {nm : String} {l : Launch} {b L : Nat} {xs : Nat → Int32} {σ : aw_S} {N : Int} (hI : INV σ N) (hN : 0 ≤ N ∧ N ≤ 999) (hi : 6 * N + 6 ≤ (L : Int)) (hL3 : L ≤ 3072) (kk : ∀ σ' : aw_S, INV σ' (N + 1) → LL nm l b L xs σ' 1303 (6 * N) []) : LL nm l b L xs σ 931 (6 * N) [] := by
  refine l_ald1 eL_law_931 ?_
  refine l_ald0 eL_law_932 ?_
  refine l_ild3 eL_law_933 ?_
  refine l_iconst eL_law_934 ?_
  refine l_iadd eL_law_935 ?_
  refine l_sld eL_law_936 ⟨by omega, by omega⟩ hL3 ?_
  refine l_ald0 eL_law_937 ?_
  refine l_ild3 eL_law_938 ?_
  refine l_iconst eL_law_939 ?_
  refine l_iadd eL_law_940 ?_
  refine l_sld eL_law_941 ⟨by omega, by omega⟩ hL3 ?_
  refine l_cV2 eL_law_942 lk_L_107 mV_X9_people sh_0 ⟨_, rfl, rfl⟩ mt_X9_people rfl rfl rfl rfl rfl rfl (AW.mono (op_people hI hN (hr := ⟨xI_r _ _, xI_r _ _⟩)) (fun r1 σ1 h1 => ?_))
  obtain ⟨vv, rfl, h2⟩ := h1
  show LL nm l b L xs σ1 945 (6 * N) [.int (jI vv)]
  refine l_ald2 eL_law_945 ?_
  refine l_ald0 eL_law_946 ?_
  refine l_ild3 eL_law_947 ?_
  refine l_iconst eL_law_948 ?_
  refine l_iadd eL_law_949 ?_
  refine l_sld eL_law_950 ⟨by omega, by omega⟩ hL3 ?_
  refine l_ald0 eL_law_951 ?_
  refine l_ild3 eL_law_952 ?_
  refine l_iconst eL_law_953 ?_
  refine l_iadd eL_law_954 ?_
  refine l_sld eL_law_955 ⟨by omega, by omega⟩ hL3 ?_
  refine l_cV2 eL_law_956 lk_L_110 mV_X10_people sh_171 ⟨_, rfl, rfl⟩ mt_X10_people rfl rfl rfl rfl rfl rfl (AW.mono h2 (fun r2 σ2 h3 => ?_))
  obtain ⟨rfl, h4⟩ := h3
  show LL nm l b L xs σ2 959 (6 * N) [.int (jI vv), .int (jI vv)]
  exact l_icmp_same 1303 eL_law_959 rfl (kk σ2 h4)
set_option maxRecDepth 100000 in
theorem lo_brought {nm : String} {l : Launch} {b L : Nat} {xs : Nat → Int32} {σ : aw_S} {N : Int} (hI : INV σ N) (hN : 0 ≤ N ∧ N ≤ 999) (hi : 6 * N + 6 ≤ (L : Int)) (hL3 : L ≤ 3072) (kk : ∀ σ' : aw_S, INV σ' (N + 1) → LL nm l b L xs σ' 1303 (6 * N) []) : LL nm l b L xs σ 964 (6 * N) [] := by
  refine l_ald1 eL_law_964 ?_
  refine l_ald0 eL_law_965 ?_
  refine l_ild3 eL_law_966 ?_
  refine l_iconst eL_law_967 ?_
  refine l_iadd eL_law_968 ?_
  refine l_sld eL_law_969 ⟨by omega, by omega⟩ hL3 ?_
  refine l_cV1 eL_law_970 lk_L_111 mV_X9_brought sh_0 ⟨_, rfl, rfl⟩ mt_X9_brought rfl rfl rfl rfl rfl (AW.mono (op_brought hI hN (hr := xI_r _ _)) (fun r1 σ1 h1 => ?_))
  obtain ⟨vv, rfl, h2⟩ := h1
  show LL nm l b L xs σ1 973 (6 * N) [.int (jI vv)]
  refine l_ald2 eL_law_973 ?_
  refine l_ald0 eL_law_974 ?_
  refine l_ild3 eL_law_975 ?_
  refine l_iconst eL_law_976 ?_
  refine l_iadd eL_law_977 ?_
  refine l_sld eL_law_978 ⟨by omega, by omega⟩ hL3 ?_
  refine l_cV1 eL_law_979 lk_L_114 mV_X10_brought sh_171 ⟨_, rfl, rfl⟩ mt_X10_brought rfl rfl rfl rfl rfl (AW.mono h2 (fun r2 σ2 h3 => ?_))
  obtain ⟨rfl, h4⟩ := h3
  show LL nm l b L xs σ2 982 (6 * N) [.int (jI vv), .int (jI vv)]
  exact l_icmp_same 1303 eL_law_982 rfl (kk σ2 h4)
set_option maxRecDepth 100000 in
theorem lo_dead {nm : String} {l : Launch} {b L : Nat} {xs : Nat → Int32} {σ : aw_S} {N : Int} (hI : INV σ N) (hN : 0 ≤ N ∧ N ≤ 999) (hi : 6 * N + 6 ≤ (L : Int)) (hL3 : L ≤ 3072) (kk : ∀ σ' : aw_S, INV σ' (N + 1) → LL nm l b L xs σ' 1303 (6 * N) []) : LL nm l b L xs σ 987 (6 * N) [] := by
  refine l_ald1 eL_law_987 ?_
  refine l_ald0 eL_law_988 ?_
  refine l_ild3 eL_law_989 ?_
  refine l_iconst eL_law_990 ?_
  refine l_iadd eL_law_991 ?_
  refine l_sld eL_law_992 ⟨by omega, by omega⟩ hL3 ?_
  refine l_ald0 eL_law_993 ?_
  refine l_ild3 eL_law_994 ?_
  refine l_iconst eL_law_995 ?_
  refine l_iadd eL_law_996 ?_
  refine l_sld eL_law_997 ⟨by omega, by omega⟩ hL3 ?_
  refine l_cV2 eL_law_998 lk_L_115 mV_X9_dead sh_0 ⟨_, rfl, rfl⟩ mt_X9_dead rfl rfl rfl rfl rfl rfl (AW.mono (op_dead hI hN (hr := ⟨xI_r _ _, xI_r _ _⟩)) (fun r1 σ1 h1 => ?_))
  obtain ⟨vv, rfl, h2⟩ := h1
  show LL nm l b L xs σ1 1001 (6 * N) [.int (jI vv)]
  refine l_ald2 eL_law_1001 ?_
  refine l_ald0 eL_law_1002 ?_
  refine l_ild3 eL_law_1003 ?_
  refine l_iconst eL_law_1004 ?_
  refine l_iadd eL_law_1005 ?_
  refine l_sld eL_law_1006 ⟨by omega, by omega⟩ hL3 ?_
  refine l_ald0 eL_law_1007 ?_
  refine l_ild3 eL_law_1008 ?_
  refine l_iconst eL_law_1009 ?_
  refine l_iadd eL_law_1010 ?_
  refine l_sld eL_law_1011 ⟨by omega, by omega⟩ hL3 ?_
  refine l_cV2 eL_law_1012 lk_L_118 mV_X10_dead sh_171 ⟨_, rfl, rfl⟩ mt_X10_dead rfl rfl rfl rfl rfl rfl (AW.mono h2 (fun r2 σ2 h3 => ?_))
  obtain ⟨rfl, h4⟩ := h3
  show LL nm l b L xs σ2 1015 (6 * N) [.int (jI vv), .int (jI vv)]
  exact l_icmp_same 1303 eL_law_1015 rfl (kk σ2 h4)
set_option maxRecDepth 100000 in
theorem lo_toLift {nm : String} {l : Launch} {b L : Nat} {xs : Nat → Int32} {σ : aw_S} {N : Int} (hI : INV σ N) (hN : 0 ≤ N ∧ N ≤ 999) (hi : 6 * N + 6 ≤ (L : Int)) (hL3 : L ≤ 3072) (kk : ∀ σ' : aw_S, INV σ' (N + 1) → LL nm l b L xs σ' 1303 (6 * N) []) : LL nm l b L xs σ 1020 (6 * N) [] := by
  refine l_ald1 eL_law_1020 ?_
  refine l_ald0 eL_law_1021 ?_
  refine l_ild3 eL_law_1022 ?_
  refine l_iconst eL_law_1023 ?_
  refine l_iadd eL_law_1024 ?_
  refine l_sld eL_law_1025 ⟨by omega, by omega⟩ hL3 ?_
  refine l_ald0 eL_law_1026 ?_
  refine l_ild3 eL_law_1027 ?_
  refine l_iconst eL_law_1028 ?_
  refine l_iadd eL_law_1029 ?_
  refine l_sld eL_law_1030 ⟨by omega, by omega⟩ hL3 ?_
  refine l_cV2 eL_law_1031 lk_L_119 mV_X9_toLift sh_0 ⟨_, rfl, rfl⟩ mt_X9_toLift rfl rfl rfl rfl rfl rfl (AW.mono (op_toLift hI hN (hr := ⟨xI_r _ _, xI_r _ _⟩)) (fun r1 σ1 h1 => ?_))
  obtain ⟨vv, rfl, h2⟩ := h1
  show LL nm l b L xs σ1 1034 (6 * N) [.int (jI vv)]
  refine l_ald2 eL_law_1034 ?_
  refine l_ald0 eL_law_1035 ?_
  refine l_ild3 eL_law_1036 ?_
  refine l_iconst eL_law_1037 ?_
  refine l_iadd eL_law_1038 ?_
  refine l_sld eL_law_1039 ⟨by omega, by omega⟩ hL3 ?_
  refine l_ald0 eL_law_1040 ?_
  refine l_ild3 eL_law_1041 ?_
  refine l_iconst eL_law_1042 ?_
  refine l_iadd eL_law_1043 ?_
  refine l_sld eL_law_1044 ⟨by omega, by omega⟩ hL3 ?_
  refine l_cV2 eL_law_1045 lk_L_122 mV_X10_toLift sh_171 ⟨_, rfl, rfl⟩ mt_X10_toLift rfl rfl rfl rfl rfl rfl (AW.mono h2 (fun r2 σ2 h3 => ?_))
  obtain ⟨rfl, h4⟩ := h3
  show LL nm l b L xs σ2 1048 (6 * N) [.int (jI vv), .int (jI vv)]
  exact l_icmp_same 1303 eL_law_1048 rfl (kk σ2 h4)
set_option maxRecDepth 100000 in
theorem lo_reading {nm : String} {l : Launch} {b L : Nat} {xs : Nat → Int32} {σ : aw_S} {N : Int} (hI : INV σ N) (hN : 0 ≤ N ∧ N ≤ 999) (hi : 6 * N + 6 ≤ (L : Int)) (hL3 : L ≤ 3072) (kk : ∀ σ' : aw_S, INV σ' (N + 1) → LL nm l b L xs σ' 1303 (6 * N) []) : LL nm l b L xs σ 1053 (6 * N) [] := by
  refine l_ald1 eL_law_1053 ?_
  refine l_ald0 eL_law_1054 ?_
  refine l_ild3 eL_law_1055 ?_
  refine l_iconst eL_law_1056 ?_
  refine l_iadd eL_law_1057 ?_
  refine l_sld eL_law_1058 ⟨by omega, by omega⟩ hL3 ?_
  refine l_ald0 eL_law_1059 ?_
  refine l_ild3 eL_law_1060 ?_
  refine l_iconst eL_law_1061 ?_
  refine l_iadd eL_law_1062 ?_
  refine l_sld eL_law_1063 ⟨by omega, by omega⟩ hL3 ?_
  refine l_ald0 eL_law_1064 ?_
  refine l_ild3 eL_law_1065 ?_
  refine l_iconst eL_law_1066 ?_
  refine l_iadd eL_law_1067 ?_
  refine l_sld eL_law_1068 ⟨by omega, by omega⟩ hL3 ?_
  refine l_cV3 eL_law_1069 lk_L_123 mV_X9_reading sh_0 ⟨_, rfl, rfl⟩ mt_X9_reading rfl rfl rfl rfl rfl rfl rfl (AW.mono (op_reading hI hN (hr := ⟨xI_r _ _, xI_r _ _, xI_r _ _⟩)) (fun r1 σ1 h1 => ?_))
  obtain ⟨vv, rfl, h2⟩ := h1
  show LL nm l b L xs σ1 1072 (6 * N) [.int (jI vv)]
  refine l_ald2 eL_law_1072 ?_
  refine l_ald0 eL_law_1073 ?_
  refine l_ild3 eL_law_1074 ?_
  refine l_iconst eL_law_1075 ?_
  refine l_iadd eL_law_1076 ?_
  refine l_sld eL_law_1077 ⟨by omega, by omega⟩ hL3 ?_
  refine l_ald0 eL_law_1078 ?_
  refine l_ild3 eL_law_1079 ?_
  refine l_iconst eL_law_1080 ?_
  refine l_iadd eL_law_1081 ?_
  refine l_sld eL_law_1082 ⟨by omega, by omega⟩ hL3 ?_
  refine l_ald0 eL_law_1083 ?_
  refine l_ild3 eL_law_1084 ?_
  refine l_iconst eL_law_1085 ?_
  refine l_iadd eL_law_1086 ?_
  refine l_sld eL_law_1087 ⟨by omega, by omega⟩ hL3 ?_
  refine l_cV3 eL_law_1088 lk_L_126 mV_X10_reading sh_171 ⟨_, rfl, rfl⟩ mt_X10_reading rfl rfl rfl rfl rfl rfl rfl (AW.mono h2 (fun r2 σ2 h3 => ?_))
  obtain ⟨rfl, h4⟩ := h3
  show LL nm l b L xs σ2 1091 (6 * N) [.int (jI vv), .int (jI vv)]
  exact l_icmp_same 1303 eL_law_1091 rfl (kk σ2 h4)
set_option maxRecDepth 100000 in
theorem lo_jumpers {nm : String} {l : Launch} {b L : Nat} {xs : Nat → Int32} {σ : aw_S} {N : Int} (hI : INV σ N) (hN : 0 ≤ N ∧ N ≤ 999) (hi : 6 * N + 6 ≤ (L : Int)) (hL3 : L ≤ 3072) (kk : ∀ σ' : aw_S, INV σ' (N + 1) → LL nm l b L xs σ' 1303 (6 * N) []) : LL nm l b L xs σ 1096 (6 * N) [] := by
  refine l_ald1 eL_law_1096 ?_
  refine l_ald0 eL_law_1097 ?_
  refine l_ild3 eL_law_1098 ?_
  refine l_iconst eL_law_1099 ?_
  refine l_iadd eL_law_1100 ?_
  refine l_sld eL_law_1101 ⟨by omega, by omega⟩ hL3 ?_
  refine l_ald0 eL_law_1102 ?_
  refine l_ild3 eL_law_1103 ?_
  refine l_iconst eL_law_1104 ?_
  refine l_iadd eL_law_1105 ?_
  refine l_sld eL_law_1106 ⟨by omega, by omega⟩ hL3 ?_
  refine l_cV2 eL_law_1107 lk_L_127 mV_X9_jumpers sh_0 ⟨_, rfl, rfl⟩ mt_X9_jumpers rfl rfl rfl rfl rfl rfl (AW.mono (op_jumpers hI hN (hr := ⟨xI_r _ _, xI_r _ _⟩)) (fun r1 σ1 h1 => ?_))
  obtain ⟨vv, rfl, h2⟩ := h1
  show LL nm l b L xs σ1 1110 (6 * N) [.int (jI vv)]
  refine l_ald2 eL_law_1110 ?_
  refine l_ald0 eL_law_1111 ?_
  refine l_ild3 eL_law_1112 ?_
  refine l_iconst eL_law_1113 ?_
  refine l_iadd eL_law_1114 ?_
  refine l_sld eL_law_1115 ⟨by omega, by omega⟩ hL3 ?_
  refine l_ald0 eL_law_1116 ?_
  refine l_ild3 eL_law_1117 ?_
  refine l_iconst eL_law_1118 ?_
  refine l_iadd eL_law_1119 ?_
  refine l_sld eL_law_1120 ⟨by omega, by omega⟩ hL3 ?_
  refine l_cV2 eL_law_1121 lk_L_130 mV_X10_jumpers sh_171 ⟨_, rfl, rfl⟩ mt_X10_jumpers rfl rfl rfl rfl rfl rfl (AW.mono h2 (fun r2 σ2 h3 => ?_))
  obtain ⟨rfl, h4⟩ := h3
  show LL nm l b L xs σ2 1124 (6 * N) [.int (jI vv), .int (jI vv)]
  exact l_icmp_same 1303 eL_law_1124 rfl (kk σ2 h4)
set_option maxRecDepth 100000 in
theorem lo_cant {nm : String} {l : Launch} {b L : Nat} {xs : Nat → Int32} {σ : aw_S} {N : Int} (hI : INV σ N) (hN : 0 ≤ N ∧ N ≤ 999) (hi : 6 * N + 6 ≤ (L : Int)) (hL3 : L ≤ 3072) (kk : ∀ σ' : aw_S, INV σ' (N + 1) → LL nm l b L xs σ' 1303 (6 * N) []) : LL nm l b L xs σ 1129 (6 * N) [] := by
  refine l_ald1 eL_law_1129 ?_
  refine l_ald0 eL_law_1130 ?_
  refine l_ild3 eL_law_1131 ?_
  refine l_iconst eL_law_1132 ?_
  refine l_iadd eL_law_1133 ?_
  refine l_sld eL_law_1134 ⟨by omega, by omega⟩ hL3 ?_
  refine l_cV1 eL_law_1135 lk_L_131 mV_X9_cant sh_0 ⟨_, rfl, rfl⟩ mt_X9_cant rfl rfl rfl rfl rfl (AW.mono (op_cant hI hN (hr := xI_r _ _)) (fun r1 σ1 h1 => ?_))
  obtain ⟨vv, rfl, h2⟩ := h1
  show LL nm l b L xs σ1 1138 (6 * N) [.int (jI vv)]
  refine l_ald2 eL_law_1138 ?_
  refine l_ald0 eL_law_1139 ?_
  refine l_ild3 eL_law_1140 ?_
  refine l_iconst eL_law_1141 ?_
  refine l_iadd eL_law_1142 ?_
  refine l_sld eL_law_1143 ⟨by omega, by omega⟩ hL3 ?_
  refine l_cV1 eL_law_1144 lk_L_134 mV_X10_cant sh_171 ⟨_, rfl, rfl⟩ mt_X10_cant rfl rfl rfl rfl rfl (AW.mono h2 (fun r2 σ2 h3 => ?_))
  obtain ⟨rfl, h4⟩ := h3
  show LL nm l b L xs σ2 1147 (6 * N) [.int (jI vv), .int (jI vv)]
  exact l_icmp_same 1303 eL_law_1147 rfl (kk σ2 h4)
set_option maxRecDepth 100000 in
theorem lo_wish {nm : String} {l : Launch} {b L : Nat} {xs : Nat → Int32} {σ : aw_S} {N : Int} (hI : INV σ N) (hN : 0 ≤ N ∧ N ≤ 999) (hi : 6 * N + 6 ≤ (L : Int)) (hL3 : L ≤ 3072) (kk : ∀ σ' : aw_S, INV σ' (N + 1) → LL nm l b L xs σ' 1303 (6 * N) []) : LL nm l b L xs σ 1152 (6 * N) [] := by
  refine l_ald1 eL_law_1152 ?_
  refine l_ald0 eL_law_1153 ?_
  refine l_ild3 eL_law_1154 ?_
  refine l_iconst eL_law_1155 ?_
  refine l_iadd eL_law_1156 ?_
  refine l_sld eL_law_1157 ⟨by omega, by omega⟩ hL3 ?_
  refine l_ald0 eL_law_1158 ?_
  refine l_ild3 eL_law_1159 ?_
  refine l_iconst eL_law_1160 ?_
  refine l_iadd eL_law_1161 ?_
  refine l_sld eL_law_1162 ⟨by omega, by omega⟩ hL3 ?_
  refine l_cV2 eL_law_1163 lk_L_135 mV_X9_wish sh_0 ⟨_, rfl, rfl⟩ mt_X9_wish rfl rfl rfl rfl rfl rfl (AW.mono (op_wish hI hN (hr := ⟨xI_r _ _, xI_r _ _⟩)) (fun r1 σ1 h1 => ?_))
  obtain ⟨vv, rfl, h2⟩ := h1
  show LL nm l b L xs σ1 1166 (6 * N) [.int (jI vv)]
  refine l_ald2 eL_law_1166 ?_
  refine l_ald0 eL_law_1167 ?_
  refine l_ild3 eL_law_1168 ?_
  refine l_iconst eL_law_1169 ?_
  refine l_iadd eL_law_1170 ?_
  refine l_sld eL_law_1171 ⟨by omega, by omega⟩ hL3 ?_
  refine l_ald0 eL_law_1172 ?_
  refine l_ild3 eL_law_1173 ?_
  refine l_iconst eL_law_1174 ?_
  refine l_iadd eL_law_1175 ?_
  refine l_sld eL_law_1176 ⟨by omega, by omega⟩ hL3 ?_
  refine l_cV2 eL_law_1177 lk_L_138 mV_X10_wish sh_171 ⟨_, rfl, rfl⟩ mt_X10_wish rfl rfl rfl rfl rfl rfl (AW.mono h2 (fun r2 σ2 h3 => ?_))
  obtain ⟨rfl, h4⟩ := h3
  show LL nm l b L xs σ2 1180 (6 * N) [.int (jI vv), .int (jI vv)]
  exact l_icmp_same 1303 eL_law_1180 rfl (kk σ2 h4)
set_option maxRecDepth 100000 in
theorem lo_rings {nm : String} {l : Launch} {b L : Nat} {xs : Nat → Int32} {σ : aw_S} {N : Int} (hI : INV σ N) (hN : 0 ≤ N ∧ N ≤ 999) (hi : 6 * N + 6 ≤ (L : Int)) (hL3 : L ≤ 3072) (kk : ∀ σ' : aw_S, INV σ' (N + 1) → LL nm l b L xs σ' 1303 (6 * N) []) : LL nm l b L xs σ 1185 (6 * N) [] := by
  refine l_ald1 eL_law_1185 ?_
  refine l_cV0 eL_law_1186 lk_L_139 mV_X9_rings sh_0 ⟨_, rfl, rfl⟩ mt_X9_rings rfl  rfl rfl rfl (AW.mono (op_rings hI hN ) (fun r1 σ1 h1 => ?_))
  obtain ⟨vv, rfl, h2⟩ := h1
  show LL nm l b L xs σ1 1189 (6 * N) [.int (jI vv)]
  refine l_ald2 eL_law_1189 ?_
  refine l_cV0 eL_law_1190 lk_L_142 mV_X10_rings sh_171 ⟨_, rfl, rfl⟩ mt_X10_rings rfl  rfl rfl rfl (AW.mono h2 (fun r2 σ2 h3 => ?_))
  obtain ⟨rfl, h4⟩ := h3
  show LL nm l b L xs σ2 1193 (6 * N) [.int (jI vv), .int (jI vv)]
  exact l_icmp_same 1303 eL_law_1193 rfl (kk σ2 h4)
set_option maxRecDepth 100000 in
theorem lo_turn {nm : String} {l : Launch} {b L : Nat} {xs : Nat → Int32} {σ : aw_S} {N : Int} (hI : INV σ N) (hN : 0 ≤ N ∧ N ≤ 999) (hi : 6 * N + 6 ≤ (L : Int)) (hL3 : L ≤ 3072) (kk : ∀ σ' : aw_S, INV σ' (N + 1) → LL nm l b L xs σ' 1303 (6 * N) []) : LL nm l b L xs σ 1198 (6 * N) [] := by
  refine l_ald1 eL_law_1198 ?_
  refine l_cV0 eL_law_1199 lk_L_143 mV_X9_turn sh_0 ⟨_, rfl, rfl⟩ mt_X9_turn rfl  rfl rfl rfl (AW.mono (op_turn hI hN ) (fun r1 σ1 h1 => ?_))
  obtain ⟨vv, rfl, h2⟩ := h1
  show LL nm l b L xs σ1 1202 (6 * N) [.int (jI vv)]
  refine l_ald2 eL_law_1202 ?_
  refine l_cV0 eL_law_1203 lk_L_146 mV_X10_turn sh_171 ⟨_, rfl, rfl⟩ mt_X10_turn rfl  rfl rfl rfl (AW.mono h2 (fun r2 σ2 h3 => ?_))
  obtain ⟨rfl, h4⟩ := h3
  show LL nm l b L xs σ2 1206 (6 * N) [.int (jI vv), .int (jI vv)]
  exact l_icmp_same 1303 eL_law_1206 rfl (kk σ2 h4)
set_option maxRecDepth 100000 in
theorem lo_earned {nm : String} {l : Launch} {b L : Nat} {xs : Nat → Int32} {σ : aw_S} {N : Int} (hI : INV σ N) (hN : 0 ≤ N ∧ N ≤ 999) (hi : 6 * N + 6 ≤ (L : Int)) (hL3 : L ≤ 3072) (kk : ∀ σ' : aw_S, INV σ' (N + 1) → LL nm l b L xs σ' 1303 (6 * N) []) : LL nm l b L xs σ 1211 (6 * N) [] := by
  refine l_ald1 eL_law_1211 ?_
  refine l_ald0 eL_law_1212 ?_
  refine l_ild3 eL_law_1213 ?_
  refine l_iconst eL_law_1214 ?_
  refine l_iadd eL_law_1215 ?_
  refine l_sld eL_law_1216 ⟨by omega, by omega⟩ hL3 ?_
  refine l_cV1 eL_law_1217 lk_L_147 mV_X9_earned sh_0 ⟨_, rfl, rfl⟩ mt_X9_earned rfl rfl rfl rfl rfl (AW.mono (op_earned hI hN (hr := xI_r _ _)) (fun r1 σ1 h1 => ?_))
  obtain ⟨vv, rfl, h2⟩ := h1
  show LL nm l b L xs σ1 1220 (6 * N) [.int (jI vv)]
  refine l_ald2 eL_law_1220 ?_
  refine l_ald0 eL_law_1221 ?_
  refine l_ild3 eL_law_1222 ?_
  refine l_iconst eL_law_1223 ?_
  refine l_iadd eL_law_1224 ?_
  refine l_sld eL_law_1225 ⟨by omega, by omega⟩ hL3 ?_
  refine l_cV1 eL_law_1226 lk_L_150 mV_X10_earned sh_171 ⟨_, rfl, rfl⟩ mt_X10_earned rfl rfl rfl rfl rfl (AW.mono h2 (fun r2 σ2 h3 => ?_))
  obtain ⟨rfl, h4⟩ := h3
  show LL nm l b L xs σ2 1229 (6 * N) [.int (jI vv), .int (jI vv)]
  exact l_icmp_same 1303 eL_law_1229 rfl (kk σ2 h4)
set_option maxRecDepth 100000 in
theorem lo_image {nm : String} {l : Launch} {b L : Nat} {xs : Nat → Int32} {σ : aw_S} {N : Int} (hI : INV σ N) (hN : 0 ≤ N ∧ N ≤ 999) (hi : 6 * N + 6 ≤ (L : Int)) (hL3 : L ≤ 3072) (kk : ∀ σ' : aw_S, INV σ' (N + 1) → LL nm l b L xs σ' 1303 (6 * N) []) : LL nm l b L xs σ 1234 (6 * N) [] := by
  refine l_ald1 eL_law_1234 ?_
  refine l_ald0 eL_law_1235 ?_
  refine l_ild3 eL_law_1236 ?_
  refine l_iconst eL_law_1237 ?_
  refine l_iadd eL_law_1238 ?_
  refine l_sld eL_law_1239 ⟨by omega, by omega⟩ hL3 ?_
  refine l_cV1 eL_law_1240 lk_L_151 mV_X9_image sh_0 ⟨_, rfl, rfl⟩ mt_X9_image rfl rfl rfl rfl rfl (AW.mono (op_image hI hN (hr := xI_r _ _)) (fun r1 σ1 h1 => ?_))
  obtain ⟨vv, rfl, h2⟩ := h1
  show LL nm l b L xs σ1 1243 (6 * N) [.int (jI vv)]
  refine l_ald2 eL_law_1243 ?_
  refine l_ald0 eL_law_1244 ?_
  refine l_ild3 eL_law_1245 ?_
  refine l_iconst eL_law_1246 ?_
  refine l_iadd eL_law_1247 ?_
  refine l_sld eL_law_1248 ⟨by omega, by omega⟩ hL3 ?_
  refine l_cV1 eL_law_1249 lk_L_154 mV_X10_image sh_171 ⟨_, rfl, rfl⟩ mt_X10_image rfl rfl rfl rfl rfl (AW.mono h2 (fun r2 σ2 h3 => ?_))
  obtain ⟨rfl, h4⟩ := h3
  show LL nm l b L xs σ2 1252 (6 * N) [.int (jI vv), .int (jI vv)]
  exact l_icmp_same 1303 eL_law_1252 rfl (kk σ2 h4)
set_option maxRecDepth 100000 in
theorem lo_back {nm : String} {l : Launch} {b L : Nat} {xs : Nat → Int32} {σ : aw_S} {N : Int} (hI : INV σ N) (hN : 0 ≤ N ∧ N ≤ 999) (hi : 6 * N + 6 ≤ (L : Int)) (hL3 : L ≤ 3072) (kk : ∀ σ' : aw_S, INV σ' (N + 1) → LL nm l b L xs σ' 1303 (6 * N) []) : LL nm l b L xs σ 1257 (6 * N) [] := by
  refine l_ald1 eL_law_1257 ?_
  refine l_ald0 eL_law_1258 ?_
  refine l_ild3 eL_law_1259 ?_
  refine l_iconst eL_law_1260 ?_
  refine l_iadd eL_law_1261 ?_
  refine l_sld eL_law_1262 ⟨by omega, by omega⟩ hL3 ?_
  refine l_cV1 eL_law_1263 lk_L_155 mV_X9_back sh_0 ⟨_, rfl, rfl⟩ mt_X9_back rfl rfl rfl rfl rfl (AW.mono (op_back hI hN (hr := xI_r _ _)) (fun r1 σ1 h1 => ?_))
  obtain ⟨vv, rfl, h2⟩ := h1
  show LL nm l b L xs σ1 1266 (6 * N) [.int (jI vv)]
  refine l_ald2 eL_law_1266 ?_
  refine l_ald0 eL_law_1267 ?_
  refine l_ild3 eL_law_1268 ?_
  refine l_iconst eL_law_1269 ?_
  refine l_iadd eL_law_1270 ?_
  refine l_sld eL_law_1271 ⟨by omega, by omega⟩ hL3 ?_
  refine l_cV1 eL_law_1272 lk_L_158 mV_X10_back sh_171 ⟨_, rfl, rfl⟩ mt_X10_back rfl rfl rfl rfl rfl (AW.mono h2 (fun r2 σ2 h3 => ?_))
  obtain ⟨rfl, h4⟩ := h3
  show LL nm l b L xs σ2 1275 (6 * N) [.int (jI vv), .int (jI vv)]
  exact l_icmp_same 1303 eL_law_1275 rfl (kk σ2 h4)
set_option maxRecDepth 100000 in
theorem lo_count {nm : String} {l : Launch} {b L : Nat} {xs : Nat → Int32} {σ : aw_S} {N : Int} (hI : INV σ N) (hN : 0 ≤ N ∧ N ≤ 999) (hi : 6 * N + 6 ≤ (L : Int)) (hL3 : L ≤ 3072) (kk : ∀ σ' : aw_S, INV σ' (N + 1) → LL nm l b L xs σ' 1303 (6 * N) []) : LL nm l b L xs σ 1280 (6 * N) [] := by
  refine l_ald1 eL_law_1280 ?_
  refine l_ald0 eL_law_1281 ?_
  refine l_ild3 eL_law_1282 ?_
  refine l_iconst eL_law_1283 ?_
  refine l_iadd eL_law_1284 ?_
  refine l_sld eL_law_1285 ⟨by omega, by omega⟩ hL3 ?_
  refine l_cV1 eL_law_1286 lk_L_159 mV_X9_count sh_0 ⟨_, rfl, rfl⟩ mt_X9_count rfl rfl rfl rfl rfl (AW.mono (op_count hI hN (hr := xI_r _ _)) (fun r1 σ1 h1 => ?_))
  obtain ⟨vv, rfl, h2⟩ := h1
  show LL nm l b L xs σ1 1289 (6 * N) [.int (jI vv)]
  refine l_ald2 eL_law_1289 ?_
  refine l_ald0 eL_law_1290 ?_
  refine l_ild3 eL_law_1291 ?_
  refine l_iconst eL_law_1292 ?_
  refine l_iadd eL_law_1293 ?_
  refine l_sld eL_law_1294 ⟨by omega, by omega⟩ hL3 ?_
  refine l_cV1 eL_law_1295 lk_L_162 mV_X10_count sh_171 ⟨_, rfl, rfl⟩ mt_X10_count rfl rfl rfl rfl rfl (AW.mono h2 (fun r2 σ2 h3 => ?_))
  obtain ⟨rfl, h4⟩ := h3
  show LL nm l b L xs σ2 1298 (6 * N) [.int (jI vv), .int (jI vv)]
  exact l_icmp_same 1303 eL_law_1298 rfl (kk σ2 h4)
set_option maxRecDepth 100000 in
theorem lw_case {nm : String} {l : Launch} {b L : Nat} {xs : Nat → Int32} {σ : aw_S} {N v : Int} (hv : -2147483648 ≤ v ∧ v ≤ 2147483647) (hI : INV σ N) (hN : 0 ≤ N ∧ N ≤ 999) (hi : 6 * N + 6 ≤ (L : Int)) (hL3 : L ≤ 3072) (kk : ∀ σ' : aw_S, INV σ' (N + 1) → LL nm l b L xs σ' 1303 (6 * N) []) (kd : LL nm l b L xs σ 1303 (6 * N) []) : LL nm l b L xs σ 33 (6 * N) [.int (jI v)] := by
  by_cases hc : 0 ≤ v ∧ v ≤ 34
  · have hw : v = 0 ∨ v = 1 ∨ v = 2 ∨ v = 3 ∨ v = 4 ∨ v = 5 ∨ v = 6 ∨ v = 7 ∨ v = 8 ∨ v = 9 ∨ v = 10 ∨ v = 11 ∨ v = 12 ∨ v = 13 ∨ v = 14 ∨ v = 15 ∨ v = 16 ∨ v = 17 ∨ v = 18 ∨ v = 19 ∨ v = 20 ∨ v = 21 ∨ v = 22 ∨ v = 23 ∨ v = 24 ∨ v = 25 ∨ v = 26 ∨ v = 27 ∨ v = 28 ∨ v = 29 ∨ v = 30 ∨ v = 31 ∨ v = 32 ∨ v = 33 ∨ v = 34 := by omega
    rcases hw with rfl | rfl | rfl | rfl | rfl | rfl | rfl | rfl | rfl | rfl | rfl | rfl | rfl | rfl | rfl | rfl | rfl | rfl | rfl | rfl | rfl | rfl | rfl | rfl | rfl | rfl | rfl | rfl | rfl | rfl | rfl | rfl | rfl | rfl | rfl
    · exact l_table 155 188 eL_law_33 hv (by omega) (by omega) rfl rfl (lo_feed hI hN hi hL3 kk)
    · exact l_table 218 251 eL_law_33 hv (by omega) (by omega) rfl rfl (lo_end hI hN hi hL3 kk)
    · exact l_table 241 274 eL_law_33 hv (by omega) (by omega) rfl rfl (lo_fault hI hN hi hL3 kk)
    · exact l_table 254 287 eL_law_33 hv (by omega) (by omega) rfl rfl (lo_city hI hN hi hL3 kk)
    · exact l_table 267 300 eL_law_33 hv (by omega) (by omega) rfl rfl (lo_rank hI hN hi hL3 kk)
    · exact l_table 300 333 eL_law_33 hv (by omega) (by omega) rfl rfl (lo_may hI hN hi hL3 kk)
    · exact l_table 343 376 eL_law_33 hv (by omega) (by omega) rfl rfl (lo_price hI hN hi hL3 kk)
    · exact l_table 376 409 eL_law_33 hv (by omega) (by omega) rfl rfl (lo_cab hI hN hi hL3 kk)
    · exact l_table 409 442 eL_law_33 hv (by omega) (by omega) rfl rfl (lo_of hI hN hi hL3 kk)
    · exact l_table 442 475 eL_law_33 hv (by omega) (by omega) rfl rfl (lo_drive hI hN hi hL3 kk)
    · exact l_table 475 508 eL_law_33 hv (by omega) (by omega) rfl rfl (lo_row hI hN hi hL3 kk)
    · exact l_table 508 541 eL_law_33 hv (by omega) (by omega) rfl rfl (lo_take hI hN hi hL3 kk)
    · exact l_table 551 584 eL_law_33 hv (by omega) (by omega) rfl rfl (lo_call hI hN hi hL3 kk)
    · exact l_table 594 627 eL_law_33 hv (by omega) (by omega) rfl rfl (lo_refuse hI hN hi hL3 kk)
    · exact l_table 617 650 eL_law_33 hv (by omega) (by omega) rfl rfl (lo_change hI hN hi hL3 kk)
    · exact l_table 650 683 eL_law_33 hv (by omega) (by omega) rfl rfl (lo_go hI hN hi hL3 kk)
    · exact l_table 673 706 eL_law_33 hv (by omega) (by omega) rfl rfl (lo_pass hI hN hi hL3 kk)
    · exact l_table 706 739 eL_law_33 hv (by omega) (by omega) rfl rfl (lo_chance hI hN hi hL3 kk)
    · exact l_table 759 792 eL_law_33 hv (by omega) (by omega) rfl rfl (lo_worth hI hN hi hL3 kk)
    · exact l_table 802 835 eL_law_33 hv (by omega) (by omega) rfl rfl (lo_going hI hN hi hL3 kk)
    · exact l_table 845 878 eL_law_33 hv (by omega) (by omega) rfl rfl (lo_thumb hI hN hi hL3 kk)
    · exact l_table 898 931 eL_law_33 hv (by omega) (by omega) rfl rfl (lo_people hI hN hi hL3 kk)
    · exact l_table 931 964 eL_law_33 hv (by omega) (by omega) rfl rfl (lo_brought hI hN hi hL3 kk)
    · exact l_table 954 987 eL_law_33 hv (by omega) (by omega) rfl rfl (lo_dead hI hN hi hL3 kk)
    · exact l_table 987 1020 eL_law_33 hv (by omega) (by omega) rfl rfl (lo_toLift hI hN hi hL3 kk)
    · exact l_table 1020 1053 eL_law_33 hv (by omega) (by omega) rfl rfl (lo_reading hI hN hi hL3 kk)
    · exact l_table 1063 1096 eL_law_33 hv (by omega) (by omega) rfl rfl (lo_jumpers hI hN hi hL3 kk)
    · exact l_table 1096 1129 eL_law_33 hv (by omega) (by omega) rfl rfl (lo_cant hI hN hi hL3 kk)
    · exact l_table 1119 1152 eL_law_33 hv (by omega) (by omega) rfl rfl (lo_wish hI hN hi hL3 kk)
    · exact l_table 1152 1185 eL_law_33 hv (by omega) (by omega) rfl rfl (lo_rings hI hN hi hL3 kk)
    · exact l_table 1165 1198 eL_law_33 hv (by omega) (by omega) rfl rfl (lo_turn hI hN hi hL3 kk)
    · exact l_table 1178 1211 eL_law_33 hv (by omega) (by omega) rfl rfl (lo_earned hI hN hi hL3 kk)
    · exact l_table 1201 1234 eL_law_33 hv (by omega) (by omega) rfl rfl (lo_image hI hN hi hL3 kk)
    · exact l_table 1224 1257 eL_law_33 hv (by omega) (by omega) rfl rfl (lo_back hI hN hi hL3 kk)
    · exact l_table 1247 1280 eL_law_33 hv (by omega) (by omega) rfl rfl (lo_count hI hN hi hL3 kk)
  · exact l_tableOut 1303 eL_law_33 hv (by omega) rfl kd
theorem INV_up {σ : aw_S} {N : Int} (h : INV σ N) : INV σ (N + 1) := by
  obtain ⟨tw, cs, t, a, m, hR, kC, kM, w⟩ := h
  exact ⟨tw, cs, t, a, m, hR, kC, kM, WF_mono (by omega) w⟩
set_option maxRecDepth 100000 in
theorem lw_loop {nm : String} {l : Launch} {b L : Nat} {xs : Nat → Int32} (hL3 : L ≤ 3072) : ∀ (f : Nat) (N : Int) (σ : aw_S), (L : Int) - 6 * N < 6 * (f : Int) → INV σ N → (0 ≤ N ∧ 6 * N ≤ (L : Int) + 6) → LL nm l b L xs σ 18 (6 * N) [] := by
  intro f
  induction f with
  | zero =>
    intro N σ hf hI hN
    refine l_ild3 eL_law_18 ?_
    refine l_ald0 eL_law_19 ?_
    refine l_slen eL_law_20 ?_
    refine l_bipush eL_law_21 rfl ?_
    refine l_isub eL_law_23 ?_
    refine l_icmp_gt 1309 eL_law_24 rfl ⟨⟨by omega, by omega⟩, ⟨by omega, by omega⟩⟩ (fun _ => ?_) (fun q => ?_)
    · refine l_iconst eL_law_1309 ?_
      exact l_end eL_law_1310 ⟨by decide, by decide⟩
    · omega
  | succ f ih =>
    intro N σ hf hI hN
    refine l_ild3 eL_law_18 ?_
    refine l_ald0 eL_law_19 ?_
    refine l_slen eL_law_20 ?_
    refine l_bipush eL_law_21 rfl ?_
    refine l_isub eL_law_23 ?_
    refine l_icmp_gt 1309 eL_law_24 rfl ⟨⟨by omega, by omega⟩, ⟨by omega, by omega⟩⟩ (fun _ => ?_) (fun q => ?_)
    · refine l_iconst eL_law_1309 ?_
      exact l_end eL_law_1310 ⟨by decide, by decide⟩
    · refine l_ald0 eL_law_27 ?_
      refine l_ild3 eL_law_28 ?_
      refine l_sld eL_law_29 ⟨by omega, by omega⟩ hL3 ?_
      refine l_bipush eL_law_30 rfl ?_
      refine l_iand ((jI (xI xs (6 * N)) &&& jI 63).toInt) eL_law_32 (jI_self _).symm ?_
      have hv : -2147483648 ≤ (jI (xI xs (6 * N)) &&& jI 63).toInt ∧ (jI (xI xs (6 * N)) &&& jI 63).toInt ≤ 2147483647 := by
        have h1 := Int32.le_toInt (jI (xI xs (6 * N)) &&& jI 63)
        have h2 := Int32.toInt_lt (jI (xI xs (6 * N)) &&& jI 63)
        omega
      have kk : ∀ σ' : aw_S, INV σ' (N + 1) → LL nm l b L xs σ' 1303 (6 * N) [] := fun σ' h' => by
        refine l_iinc3 eL_law_1303 (show 3 < 4 by decide) aw_n2r ?_
        refine l_goto 18 eL_law_1306 rfl ?_
        have e : 6 * N + 6 = 6 * (N + 1) := by omega
        rw [e]
        exact ih (N + 1) σ' (by omega) h' (by omega)
      exact lw_case hv hI ⟨hN.1, by omega⟩ (by omega) hL3 kk (kk σ (INV_up hI))
/-- the state behind the two constructors -/
theorem INV_0 : INV (sN 207 4) 0 := by
  have z : ∀ (b : Nat) (j : Int), ¬ (b = 3 ∨ b = 13) → (sN 207 4).1 b j = 0 := fun b j q => by
    show NI 4 b j = 0
    rw [ni_v, if_neg (by omega)]
  have zc : ∀ j : Int, ¬ (j = 11 ∨ j = 15) → (sN 207 4).1 3 j = 0 ∧ (sN 207 4).1 13 j = 0 := fun j q => by
    constructor
    · show NI 4 3 j = 0
      rw [ni_v, if_neg (by omega)]
    · show NI 4 13 j = 0
      rw [ni_v, if_neg (by omega)]
  have hw : WF (fun _ _ => 0) 0 := by
    refine ⟨⟨?_, ?_, ?_, ?_, ?_, ?_, ?_, ?_⟩, ⟨?_, ?_, ?_, ?_, ?_, ?_, ?_, ?_⟩, ⟨?_, ?_⟩, ?_, ?_, ⟨?_, ?_⟩⟩
    · (try dsimp only at *); omega
    · intro r r1 r2; (try dsimp only at *); omega
    · intro r s r1 r2; (try dsimp only at *); omega
    · (try dsimp only at *); omega
    · intro k k1 k2; (try dsimp only at *); omega
    · intro q; (try dsimp only at *); omega
    · (try dsimp only at *); omega
    · (try dsimp only at *); omega
    · (try dsimp only at *); omega
    · (try dsimp only at *); omega
    · (try dsimp only at *); omega
    · intro r r1 r2; (try dsimp only at *); omega
    · intro c c1 c2; (try dsimp only at *); omega
    · intro r k r1 r2 k1 k2; (try dsimp only at *); omega
    · intro r k j r1 r2 k1 k2; (try dsimp only at *); omega
    · intro c c1 c2; (try dsimp only at *); omega
    · (try dsimp only at *); omega
    · intro i i1 i2; (try dsimp only at *); omega
    · intro r r1 r2; (try dsimp only at *); omega
    · intro k k1 k2 q; (try dsimp only at *); omega
    · (try dsimp only at *); omega
    · intro i i1 i2; (try dsimp only at *); omega
  have hrf : (sN 207 4).2.2 = RF false false := pr_all
  have tc : ∀ t : Nat, isCity t → KC (sN 207 4) t (fun _ _ => 0) := fun t ht => by
    have h13 : t = 3 ∨ t = 13 := ht
    have zt : ∀ j : Int, ¬ (j = 11 ∨ j = 15) → (sN 207 4).1 t j = 0 := fun j q => by
      rcases ht with rfl | rfl
      · exact (zc j q).1
      · exact (zc j q).2
    refine ⟨⟨zt 0 (by (try dsimp only at *); omega), fun r r1 r2 => by (try dsimp only at *); omega, zt 4 (by (try dsimp only at *); omega), fun k k1 k2 => by (try dsimp only at *); omega, fun r r1 r2 => by (try dsimp only at *); omega, fun q => by (try dsimp only at *); omega, zt 13 (by (try dsimp only at *); omega), zt 14 (by (try dsimp only at *); omega)⟩, ⟨z 21 0 (by (try dsimp only at *); omega), z 21 1 (by (try dsimp only at *); omega), z 21 6 (by (try dsimp only at *); omega), fun r r1 r2 => ⟨z _ r (by (try dsimp only at *); omega), z _ r (by (try dsimp only at *); omega)⟩, fun c f c1 c2 => by (try dsimp only at *); omega, fun r k r1 r2 k1 k2 => by (try dsimp only at *); omega, fun i w i1 i2 => by (try dsimp only at *); omega⟩, ⟨z 64 0 (by (try dsimp only at *); omega), fun i i1 i2 => by (try dsimp only at *); omega⟩, ⟨fun r r1 r2 => ⟨z 52 r (by (try dsimp only at *); omega), fun q => absurd rfl q⟩, aw_mb ⟨0, by (try dsimp only at *); omega, z 51 5 (by (try dsimp only at *); omega), fun k s n q _ _ _ _ => absurd q (Nat.not_lt_zero k)⟩, fun r r1 r2 => ⟨rfl, by rw [z 55 r (by (try dsimp only at *); omega)]; (try dsimp only at *); omega⟩⟩, fun k k1 k2 => ⟨⟨z 50 k (by (try dsimp only at *); omega), Or.inl rfl⟩, fun q => absurd q (by (try dsimp only at *); omega)⟩, ⟨z 1 1 (by (try dsimp only at *); omega), fun i i1 i2 => by (try dsimp only at *); omega⟩⟩
  have hm : KM (sN 207 4) (fun _ _ => 0) := ⟨⟨z 171 14 (by (try dsimp only at *); omega), fun r r1 r2 => by (try dsimp only at *); omega, z 171 16 (by (try dsimp only at *); omega), fun k k1 k2 => by (try dsimp only at *); omega, fun q => by (try dsimp only at *); omega, z 181 0 (by (try dsimp only at *); omega), z 181 1 (by (try dsimp only at *); omega)⟩, ⟨z 171 21 (by (try dsimp only at *); omega), z 171 22 (by (try dsimp only at *); omega), z 171 26 (by (try dsimp only at *); omega), fun r r1 r2 => ⟨z 184 r (by (try dsimp only at *); omega), z 186 r (by (try dsimp only at *); omega)⟩, fun c c1 c2 => by (try dsimp only at *); omega, fun r k r1 r2 k1 k2 => by (try dsimp only at *); omega, fun i w i1 i2 => by (try dsimp only at *); omega⟩, ⟨z 171 30 (by (try dsimp only at *); omega), fun i i1 i2 => by (try dsimp only at *); omega⟩, fun r r1 r2 => ⟨z 187 _ (by (try dsimp only at *); omega), z 187 _ (by (try dsimp only at *); omega), z 187 _ (by (try dsimp only at *); omega)⟩, fun k k1 k2 => ⟨z 192 k (by (try dsimp only at *); omega), fun q => absurd q (by (try dsimp only at *); omega)⟩, ⟨z 171 1 (by (try dsimp only at *); omega), fun i i1 i2 => by (try dsimp only at *); omega⟩⟩
  exact ⟨false, false, 13, 3, fun _ _ => 0, ⟨hrf, rfl, rfl⟩, tc 13 (Or.inr rfl), hm, hw⟩
set_option maxRecDepth 100000 in
/-- from the entry -/
theorem lw_all {nm : String} {l : Launch} {b L : Nat} {xs : Nat → Int32} (hL3 : L ≤ 3072) : LW (XS b L xs) l (yLn nm) cL_law 4 (some .boolean) 15 552 600000 7302250 (SH.take 0) 0 0 (sN 0 0) 0 [some (.ref 1000030), none, none, none] [] := by
  refine l_nnew (ci := 9) eL_law_0 rfl kl_L_7 lw_ins_X9 lw_ini_X9 nt_9 sh_0 (by decide +kernel) rfl ?_
  refine l_dup eL_law_3 rfl ?_
  refine l_callI eL_law_4 lk_L_9 mI_X9_init ⟨_, rfl⟩ mt_X9_init rfl rfl rfl rfl (k_X9_init_1 ?_)
  refine l_ast1 eL_law_7 (by decide) aw_n2r ?_
  refine l_nnew (ci := 10) (K := 171) eL_law_8 rfl kl_L_10 lw_ins_X10 lw_ini_X10 nt_10 sh_171 (by decide +kernel) rfl ?_
  refine l_dup eL_law_11 rfl ?_
  refine l_callI eL_law_12 lk_L_12 mI_X10_init ⟨_, rfl⟩ mt_X10_init rfl rfl rfl rfl (k_X10_init_172 ?_)
  refine l_ast2 eL_law_15 (by decide) aw_n2r ?_
  refine l_iconst eL_law_16 ?_
  refine l_ist3 eL_law_17 (by decide) aw_n2r ?_
  rw [sh_all]
  exact lw_loop hL3 (L + 1) 0 _ (by omega) INV_0 (by omega)
