/-! the law's cases (by program) -/
section LC
variable {l : Launch} {Ln : Nat} {xs : Nat → Int32} {kc ks n : Nat} {σ : hm_M} {α : sA}
set_option maxRecDepth 100000 in
theorem lq_case0 (Y : sY α) (hC : rC α σ) (hM : rM α σ) (hn : n + 5 ≤ Ln) (hL : Ln ≤ 2560) (hk : kc + 7 ≤ 600000) (hs : ks + 81 ≤ 7302250) (go : ∀ β τ, sY β → rC β τ → rM β τ → lq_V l Ln xs (kc + 7) (ks + 81) 880 [(1, .ref 0), (2, .ref 27), (3, .int (nI n))] [] τ) : lq_V l Ln xs kc ks 124 [(1, .ref 0), (2, .ref 27), (3, .int (nI n))] [] σ := by
  refine lq_a1 dL_law_124 ?_
  refine lq_arg 1 (by decide) (by decide) hn hL dL_law_125 dL_law_126 dL_law_127 dL_law_128 dL_law_129 ?_
  refine lq_callV lm_RL_13 (k4_cell l hC Y.1 _) rfl rfl rfl rfl (Nat.lt_of_lt_of_le (by decide) hC.N) (by decide) ⟨by omega, by omega⟩ (Nat.le_of_ble_eq_true rfl) dL_law_130 ?_
  rintro _ τ ⟨rfl, hC1, hf1⟩
  have hM1 := hM.keep hf1
  refine lq_a2 dL_law_133 ?_
  refine lq_arg 1 (by decide) (by decide) hn hL dL_law_134 dL_law_135 dL_law_136 dL_law_137 dL_law_138 ?_
  refine lq_callV lm_RL_17 (r5_cell l hM1 Y.1 _) rfl rfl rfl rfl (Nat.lt_of_lt_of_le (by decide) hM1.m.1) (by decide) ⟨by omega, by omega⟩ (Nat.le_of_ble_eq_true rfl) dL_law_139 ?_
  rintro _ ρ ⟨rfl, hM2, hf2⟩
  refine lq_cmpI 880 dL_law_142 (by decide) ?_
  exact lq_widen _ _ (by omega) (by omega) (go _ _ (yoCell Y _) (hC1.keep hf2) hM2)
set_option maxRecDepth 100000 in
theorem lq_case1 (Y : sY α) (hC : rC α σ) (hM : rM α σ) (hn : n + 5 ≤ Ln) (hL : Ln ≤ 2560) (hk : kc + 7 ≤ 600000) (hs : ks + 81 ≤ 7302250) (go : ∀ β τ, sY β → rC β τ → rM β τ → lq_V l Ln xs (kc + 7) (ks + 81) 880 [(1, .ref 0), (2, .ref 27), (3, .int (nI n))] [] τ) : lq_V l Ln xs kc ks 147 [(1, .ref 0), (2, .ref 27), (3, .int (nI n))] [] σ := by
  refine lq_a1 dL_law_147 ?_
  refine lq_arg 1 (by decide) (by decide) hn hL dL_law_148 dL_law_149 dL_law_150 dL_law_151 dL_law_152 ?_
  refine lq_arg 2 (by decide) (by decide) hn hL dL_law_153 dL_law_154 dL_law_155 dL_law_156 dL_law_157 ?_
  refine lq_long 3 (by decide) (by decide) hn hL dL_law_158 dL_law_159 dL_law_161 dL_law_162 dL_law_163 dL_law_164 dL_law_165 dL_law_166 dL_law_167 dL_law_168 dL_law_171 dL_law_172 ?_
  refine lq_callV lm_RL_20 (k4_portable l hC Y.1 _ _) rfl rfl rfl rfl (Nat.lt_of_lt_of_le (by decide) hC.N) (by decide) ⟨by omega, by omega⟩ (Nat.le_of_ble_eq_true rfl) dL_law_173 ?_
  rintro _ τ ⟨rfl, hC1, hf1⟩
  have hM1 := hM.keep hf1
  refine lq_a2 dL_law_176 ?_
  refine lq_arg 1 (by decide) (by decide) hn hL dL_law_177 dL_law_178 dL_law_179 dL_law_180 dL_law_181 ?_
  refine lq_arg 2 (by decide) (by decide) hn hL dL_law_182 dL_law_183 dL_law_184 dL_law_185 dL_law_186 ?_
  refine lq_long 3 (by decide) (by decide) hn hL dL_law_187 dL_law_188 dL_law_190 dL_law_191 dL_law_192 dL_law_193 dL_law_194 dL_law_195 dL_law_196 dL_law_197 dL_law_200 dL_law_201 ?_
  refine lq_callV lm_RL_24 (r5_portable l hM1 Y.1 _ _) rfl rfl rfl rfl (Nat.lt_of_lt_of_le (by decide) hM1.m.1) (by decide) ⟨by omega, by omega⟩ (Nat.le_of_ble_eq_true rfl) dL_law_202 ?_
  rintro _ ρ ⟨rfl, hM2, hf2⟩
  refine lq_cmpI 880 dL_law_205 (by decide) ?_
  exact lq_widen _ _ (by omega) (by omega) (go _ _ (yoPortable Y _ _) (hC1.keep hf2) hM2)
set_option maxRecDepth 100000 in
theorem lq_case2 (Y : sY α) (hC : rC α σ) (hM : rM α σ) (hn : n + 5 ≤ Ln) (hL : Ln ≤ 2560) (hk : kc + 7 ≤ 600000) (hs : ks + 81 ≤ 7302250) (go : ∀ β τ, sY β → rC β τ → rM β τ → lq_V l Ln xs (kc + 7) (ks + 81) 880 [(1, .ref 0), (2, .ref 27), (3, .int (nI n))] [] τ) : lq_V l Ln xs kc ks 210 [(1, .ref 0), (2, .ref 27), (3, .int (nI n))] [] σ := by
  refine lq_a1 dL_law_210 ?_
  refine lq_arg 1 (by decide) (by decide) hn hL dL_law_211 dL_law_212 dL_law_213 dL_law_214 dL_law_215 ?_
  refine lq_arg 2 (by decide) (by decide) hn hL dL_law_216 dL_law_217 dL_law_218 dL_law_219 dL_law_220 ?_
  refine lq_callV lm_RL_25 (k4_reach l hC Y.1 _ _) rfl rfl rfl rfl (Nat.lt_of_lt_of_le (by decide) hC.N) (by decide) ⟨by omega, by omega⟩ (Nat.le_of_ble_eq_true rfl) dL_law_221 ?_
  rintro _ τ ⟨rfl, hC1, hf1⟩
  have hM1 := hM.keep hf1
  refine lq_a2 dL_law_224 ?_
  refine lq_arg 1 (by decide) (by decide) hn hL dL_law_225 dL_law_226 dL_law_227 dL_law_228 dL_law_229 ?_
  refine lq_arg 2 (by decide) (by decide) hn hL dL_law_230 dL_law_231 dL_law_232 dL_law_233 dL_law_234 ?_
  refine lq_callV lm_RL_29 (r5_reach l hM1 Y.1 _ _) rfl rfl rfl rfl (Nat.lt_of_lt_of_le (by decide) hM1.m.1) (by decide) ⟨by omega, by omega⟩ (Nat.le_of_ble_eq_true rfl) dL_law_235 ?_
  rintro _ ρ ⟨rfl, hM2, hf2⟩
  refine lq_cmpI 880 dL_law_238 (by decide) ?_
  exact lq_widen _ _ (by omega) (by omega) (go _ _ (yoReach Y _ _) (hC1.keep hf2) hM2)
set_option maxRecDepth 100000 in
theorem lq_case3 (Y : sY α) (hC : rC α σ) (hM : rM α σ) (hn : n + 5 ≤ Ln) (hL : Ln ≤ 2560) (hk : kc + 7 ≤ 600000) (hs : ks + 81 ≤ 7302250) (go : ∀ β τ, sY β → rC β τ → rM β τ → lq_V l Ln xs (kc + 7) (ks + 81) 880 [(1, .ref 0), (2, .ref 27), (3, .int (nI n))] [] τ) : lq_V l Ln xs kc ks 243 [(1, .ref 0), (2, .ref 27), (3, .int (nI n))] [] σ := by
  refine lq_a1 dL_law_243 ?_
  refine lq_arg 1 (by decide) (by decide) hn hL dL_law_244 dL_law_245 dL_law_246 dL_law_247 dL_law_248 ?_
  refine lq_arg 2 (by decide) (by decide) hn hL dL_law_249 dL_law_250 dL_law_251 dL_law_252 dL_law_253 ?_
  refine lq_arg 3 (by decide) (by decide) hn hL dL_law_254 dL_law_255 dL_law_256 dL_law_257 dL_law_258 ?_
  refine lq_bool dL_law_259 dL_law_262 dL_law_263 dL_law_266 ?_
  refine lq_callV lm_RL_30 (k4_noise l hC Y.1 _ _ _ (bI_01 _)) rfl rfl rfl rfl (Nat.lt_of_lt_of_le (by decide) hC.N) (by decide) ⟨by omega, by omega⟩ (Nat.le_of_ble_eq_true rfl) dL_law_267 ?_
  rintro _ τ ⟨rfl, hC1, hf1⟩
  have hM1 := hM.keep hf1
  refine lq_a2 dL_law_270 ?_
  refine lq_arg 1 (by decide) (by decide) hn hL dL_law_271 dL_law_272 dL_law_273 dL_law_274 dL_law_275 ?_
  refine lq_arg 2 (by decide) (by decide) hn hL dL_law_276 dL_law_277 dL_law_278 dL_law_279 dL_law_280 ?_
  refine lq_arg 3 (by decide) (by decide) hn hL dL_law_281 dL_law_282 dL_law_283 dL_law_284 dL_law_285 ?_
  refine lq_bool dL_law_286 dL_law_289 dL_law_290 dL_law_293 ?_
  refine lq_callV lm_RL_34 (r5_noise l hM1 Y.1 _ _ _ (bI_01 _)) rfl rfl rfl rfl (Nat.lt_of_lt_of_le (by decide) hM1.m.1) (by decide) ⟨by omega, by omega⟩ (Nat.le_of_ble_eq_true rfl) dL_law_294 ?_
  rintro _ ρ ⟨rfl, hM2, hf2⟩
  refine lq_cmpI 880 dL_law_297 (by decide) ?_
  exact lq_widen _ _ (by omega) (by omega) (go _ _ (yoNoise Y _ _ _ (bI_01 _)) (hC1.keep hf2) hM2)
set_option maxRecDepth 100000 in
theorem lq_case4 (Y : sY α) (hC : rC α σ) (hM : rM α σ) (hn : n + 5 ≤ Ln) (hL : Ln ≤ 2560) (hk : kc + 7 ≤ 600000) (hs : ks + 81 ≤ 7302250) (go : ∀ β τ, sY β → rC β τ → rM β τ → lq_V l Ln xs (kc + 7) (ks + 81) 880 [(1, .ref 0), (2, .ref 27), (3, .int (nI n))] [] τ) : lq_V l Ln xs kc ks 302 [(1, .ref 0), (2, .ref 27), (3, .int (nI n))] [] σ := by
  refine lq_a1 dL_law_302 ?_
  refine lq_arg 1 (by decide) (by decide) hn hL dL_law_303 dL_law_304 dL_law_305 dL_law_306 dL_law_307 ?_
  refine lq_arg 2 (by decide) (by decide) hn hL dL_law_308 dL_law_309 dL_law_310 dL_law_311 dL_law_312 ?_
  refine lq_callV lm_RL_35 (k4_go l hC Y.1 _ _) rfl rfl rfl rfl (Nat.lt_of_lt_of_le (by decide) hC.N) (by decide) ⟨by omega, by omega⟩ (Nat.le_of_ble_eq_true rfl) dL_law_313 ?_
  rintro _ τ ⟨rfl, hC1, hf1⟩
  have hM1 := hM.keep hf1
  refine lq_a2 dL_law_316 ?_
  refine lq_arg 1 (by decide) (by decide) hn hL dL_law_317 dL_law_318 dL_law_319 dL_law_320 dL_law_321 ?_
  refine lq_arg 2 (by decide) (by decide) hn hL dL_law_322 dL_law_323 dL_law_324 dL_law_325 dL_law_326 ?_
  refine lq_callV lm_RL_38 (r5_go l hM1 Y.1 _ _) rfl rfl rfl rfl (Nat.lt_of_lt_of_le (by decide) hM1.m.1) (by decide) ⟨by omega, by omega⟩ (Nat.le_of_ble_eq_true rfl) dL_law_327 ?_
  rintro _ ρ ⟨rfl, hM2, hf2⟩
  refine lq_cmpI 880 dL_law_330 (by decide) ?_
  exact lq_widen _ _ (by omega) (by omega) (go _ _ (yoGo Y _ _) (hC1.keep hf2) hM2)
set_option maxRecDepth 100000 in
theorem lq_case5 (Y : sY α) (hC : rC α σ) (hM : rM α σ) (hn : n + 5 ≤ Ln) (hL : Ln ≤ 2560) (hk : kc + 7 ≤ 600000) (hs : ks + 81 ≤ 7302250) (go : ∀ β τ, sY β → rC β τ → rM β τ → lq_V l Ln xs (kc + 7) (ks + 81) 880 [(1, .ref 0), (2, .ref 27), (3, .int (nI n))] [] τ) : lq_V l Ln xs kc ks 335 [(1, .ref 0), (2, .ref 27), (3, .int (nI n))] [] σ := by
  refine lq_a1 dL_law_335 ?_
  refine lq_arg 1 (by decide) (by decide) hn hL dL_law_336 dL_law_337 dL_law_338 dL_law_339 dL_law_340 ?_
  refine lq_arg 2 (by decide) (by decide) hn hL dL_law_341 dL_law_342 dL_law_343 dL_law_344 dL_law_345 ?_
  refine lq_long 3 (by decide) (by decide) hn hL dL_law_346 dL_law_347 dL_law_349 dL_law_350 dL_law_351 dL_law_352 dL_law_353 dL_law_354 dL_law_355 dL_law_356 dL_law_359 dL_law_360 ?_
  refine lq_callV lm_RL_39 (k4_enter l hC Y.1 _ _) rfl rfl rfl rfl (Nat.lt_of_lt_of_le (by decide) hC.N) (by decide) ⟨by omega, by omega⟩ (Nat.le_of_ble_eq_true rfl) dL_law_361 ?_
  rintro _ τ ⟨rfl, hC1, hf1⟩
  have hM1 := hM.keep hf1
  refine lq_a2 dL_law_364 ?_
  refine lq_arg 1 (by decide) (by decide) hn hL dL_law_365 dL_law_366 dL_law_367 dL_law_368 dL_law_369 ?_
  refine lq_arg 2 (by decide) (by decide) hn hL dL_law_370 dL_law_371 dL_law_372 dL_law_373 dL_law_374 ?_
  refine lq_long 3 (by decide) (by decide) hn hL dL_law_375 dL_law_376 dL_law_378 dL_law_379 dL_law_380 dL_law_381 dL_law_382 dL_law_383 dL_law_384 dL_law_385 dL_law_388 dL_law_389 ?_
  refine lq_callV lm_RL_42 (r5_enter l hM1 Y.1 _ _) rfl rfl rfl rfl (Nat.lt_of_lt_of_le (by decide) hM1.m.1) (by decide) ⟨by omega, by omega⟩ (Nat.le_of_ble_eq_true rfl) dL_law_390 ?_
  rintro _ ρ ⟨rfl, hM2, hf2⟩
  refine lq_cmpI 880 dL_law_393 (by decide) ?_
  exact lq_widen _ _ (by omega) (by omega) (go _ _ (yoEnter Y _ _) (hC1.keep hf2) hM2)
set_option maxRecDepth 100000 in
theorem lq_case6 (Y : sY α) (hC : rC α σ) (hM : rM α σ) (hn : n + 5 ≤ Ln) (hL : Ln ≤ 2560) (hk : kc + 7 ≤ 600000) (hs : ks + 81 ≤ 7302250) (go : ∀ β τ, sY β → rC β τ → rM β τ → lq_V l Ln xs (kc + 7) (ks + 81) 880 [(1, .ref 0), (2, .ref 27), (3, .int (nI n))] [] τ) : lq_V l Ln xs kc ks 398 [(1, .ref 0), (2, .ref 27), (3, .int (nI n))] [] σ := by
  refine lq_a1 dL_law_398 ?_
  refine lq_arg 1 (by decide) (by decide) hn hL dL_law_399 dL_law_400 dL_law_401 dL_law_402 dL_law_403 ?_
  refine lq_arg 2 (by decide) (by decide) hn hL dL_law_404 dL_law_405 dL_law_406 dL_law_407 dL_law_408 ?_
  refine lq_callV lm_RL_43 (k4_dial l hC Y.1 _ _) rfl rfl rfl rfl (Nat.lt_of_lt_of_le (by decide) hC.N) (by decide) ⟨by omega, by omega⟩ (Nat.le_of_ble_eq_true rfl) dL_law_409 ?_
  rintro _ τ ⟨rfl, hC1, hf1⟩
  have hM1 := hM.keep hf1
  refine lq_a2 dL_law_412 ?_
  refine lq_arg 1 (by decide) (by decide) hn hL dL_law_413 dL_law_414 dL_law_415 dL_law_416 dL_law_417 ?_
  refine lq_arg 2 (by decide) (by decide) hn hL dL_law_418 dL_law_419 dL_law_420 dL_law_421 dL_law_422 ?_
  refine lq_callV lm_RL_46 (r5_dial l hM1 Y.1 _ _) rfl rfl rfl rfl (Nat.lt_of_lt_of_le (by decide) hM1.m.1) (by decide) ⟨by omega, by omega⟩ (Nat.le_of_ble_eq_true rfl) dL_law_423 ?_
  rintro _ ρ ⟨rfl, hM2, hf2⟩
  refine lq_cmpI 880 dL_law_426 (by decide) ?_
  exact lq_widen _ _ (by omega) (by omega) (go _ _ (yoDial Y _ _) (hC1.keep hf2) hM2)
set_option maxRecDepth 100000 in
theorem lq_case7 (Y : sY α) (hC : rC α σ) (hM : rM α σ) (hn : n + 5 ≤ Ln) (hL : Ln ≤ 2560) (hk : kc + 7 ≤ 600000) (hs : ks + 81 ≤ 7302250) (go : ∀ β τ, sY β → rC β τ → rM β τ → lq_V l Ln xs (kc + 7) (ks + 81) 880 [(1, .ref 0), (2, .ref 27), (3, .int (nI n))] [] τ) : lq_V l Ln xs kc ks 431 [(1, .ref 0), (2, .ref 27), (3, .int (nI n))] [] σ := by
  refine lq_a1 dL_law_431 ?_
  refine lq_arg 1 (by decide) (by decide) hn hL dL_law_432 dL_law_433 dL_law_434 dL_law_435 dL_law_436 ?_
  refine lq_callV lm_RL_47 (k4_answer l hC Y.1 _) rfl rfl rfl rfl (Nat.lt_of_lt_of_le (by decide) hC.N) (by decide) ⟨by omega, by omega⟩ (Nat.le_of_ble_eq_true rfl) dL_law_437 ?_
  rintro _ τ ⟨rfl, hC1, hf1⟩
  have hM1 := hM.keep hf1
  refine lq_a2 dL_law_440 ?_
  refine lq_arg 1 (by decide) (by decide) hn hL dL_law_441 dL_law_442 dL_law_443 dL_law_444 dL_law_445 ?_
  refine lq_callV lm_RL_50 (r5_answer l hM1 Y.1 _) rfl rfl rfl rfl (Nat.lt_of_lt_of_le (by decide) hM1.m.1) (by decide) ⟨by omega, by omega⟩ (Nat.le_of_ble_eq_true rfl) dL_law_446 ?_
  rintro _ ρ ⟨rfl, hM2, hf2⟩
  refine lq_cmpI 880 dL_law_449 (by decide) ?_
  exact lq_widen _ _ (by omega) (by omega) (go _ _ (yoAnswer Y _) (hC1.keep hf2) hM2)
set_option maxRecDepth 100000 in
theorem lq_case8 (Y : sY α) (hC : rC α σ) (hM : rM α σ) (hn : n + 5 ≤ Ln) (hL : Ln ≤ 2560) (hk : kc + 7 ≤ 600000) (hs : ks + 81 ≤ 7302250) (go : ∀ β τ, sY β → rC β τ → rM β τ → lq_V l Ln xs (kc + 7) (ks + 81) 880 [(1, .ref 0), (2, .ref 27), (3, .int (nI n))] [] τ) : lq_V l Ln xs kc ks 454 [(1, .ref 0), (2, .ref 27), (3, .int (nI n))] [] σ := by
  refine lq_a1 dL_law_454 ?_
  refine lq_arg 1 (by decide) (by decide) hn hL dL_law_455 dL_law_456 dL_law_457 dL_law_458 dL_law_459 ?_
  refine lq_callV lm_RL_51 (k4_hang l hC Y.1 _) rfl rfl rfl rfl (Nat.lt_of_lt_of_le (by decide) hC.N) (by decide) ⟨by omega, by omega⟩ (Nat.le_of_ble_eq_true rfl) dL_law_460 ?_
  rintro _ τ ⟨rfl, hC1, hf1⟩
  have hM1 := hM.keep hf1
  refine lq_a2 dL_law_463 ?_
  refine lq_arg 1 (by decide) (by decide) hn hL dL_law_464 dL_law_465 dL_law_466 dL_law_467 dL_law_468 ?_
  refine lq_callV lm_RL_54 (r5_hang l hM1 Y.1 _) rfl rfl rfl rfl (Nat.lt_of_lt_of_le (by decide) hM1.m.1) (by decide) ⟨by omega, by omega⟩ (Nat.le_of_ble_eq_true rfl) dL_law_469 ?_
  rintro _ ρ ⟨rfl, hM2, hf2⟩
  refine lq_cmpI 880 dL_law_472 (by decide) ?_
  exact lq_widen _ _ (by omega) (by omega) (go _ _ (yoHang Y _) (hC1.keep hf2) hM2)
set_option maxRecDepth 100000 in
theorem lq_case9 (Y : sY α) (hC : rC α σ) (hM : rM α σ) (hn : n + 5 ≤ Ln) (hL : Ln ≤ 2560) (hk : kc + 7 ≤ 600000) (hs : ks + 81 ≤ 7302250) (go : ∀ β τ, sY β → rC β τ → rM β τ → lq_V l Ln xs (kc + 7) (ks + 81) 880 [(1, .ref 0), (2, .ref 27), (3, .int (nI n))] [] τ) : lq_V l Ln xs kc ks 477 [(1, .ref 0), (2, .ref 27), (3, .int (nI n))] [] σ := by
  refine lq_a1 dL_law_477 ?_
  refine lq_arg 1 (by decide) (by decide) hn hL dL_law_478 dL_law_479 dL_law_480 dL_law_481 dL_law_482 ?_
  refine lq_arg 2 (by decide) (by decide) hn hL dL_law_483 dL_law_484 dL_law_485 dL_law_486 dL_law_487 ?_
  refine lq_long 3 (by decide) (by decide) hn hL dL_law_488 dL_law_489 dL_law_491 dL_law_492 dL_law_493 dL_law_494 dL_law_495 dL_law_496 dL_law_497 dL_law_498 dL_law_501 dL_law_502 ?_
  refine lq_callV lm_RL_55 (k4_say l hC Y.1 _ _) rfl rfl rfl rfl (Nat.lt_of_lt_of_le (by decide) hC.N) (by decide) ⟨by omega, by omega⟩ (Nat.le_of_ble_eq_true rfl) dL_law_503 ?_
  rintro _ τ ⟨rfl, hC1, hf1⟩
  have hM1 := hM.keep hf1
  refine lq_a2 dL_law_506 ?_
  refine lq_arg 1 (by decide) (by decide) hn hL dL_law_507 dL_law_508 dL_law_509 dL_law_510 dL_law_511 ?_
  refine lq_arg 2 (by decide) (by decide) hn hL dL_law_512 dL_law_513 dL_law_514 dL_law_515 dL_law_516 ?_
  refine lq_long 3 (by decide) (by decide) hn hL dL_law_517 dL_law_518 dL_law_520 dL_law_521 dL_law_522 dL_law_523 dL_law_524 dL_law_525 dL_law_526 dL_law_527 dL_law_530 dL_law_531 ?_
  refine lq_callV lm_RL_58 (r5_say l hM1 Y.1 _ _) rfl rfl rfl rfl (Nat.lt_of_lt_of_le (by decide) hM1.m.1) (by decide) ⟨by omega, by omega⟩ (Nat.le_of_ble_eq_true rfl) dL_law_532 ?_
  rintro _ ρ ⟨rfl, hM2, hf2⟩
  refine lq_cmpI 880 dL_law_535 (by decide) ?_
  exact lq_widen _ _ (by omega) (by omega) (go _ _ (yoSay Y _ _) (hC1.keep hf2) hM2)
set_option maxRecDepth 100000 in
theorem lq_case10 (Y : sY α) (hC : rC α σ) (hM : rM α σ) (hn : n + 5 ≤ Ln) (hL : Ln ≤ 2560) (hk : kc + 7 ≤ 600000) (hs : ks + 81 ≤ 7302250) (go : ∀ β τ, sY β → rC β τ → rM β τ → lq_V l Ln xs (kc + 7) (ks + 81) 880 [(1, .ref 0), (2, .ref 27), (3, .int (nI n))] [] τ) : lq_V l Ln xs kc ks 540 [(1, .ref 0), (2, .ref 27), (3, .int (nI n))] [] σ := by
  refine lq_a1 dL_law_540 ?_
  refine lq_arg 1 (by decide) (by decide) hn hL dL_law_541 dL_law_542 dL_law_543 dL_law_544 dL_law_545 ?_
  refine lq_callV lm_RL_59 (k4_frames l hC Y.1 _) rfl rfl rfl rfl (Nat.lt_of_lt_of_le (by decide) hC.N) (by decide) ⟨by omega, by omega⟩ (Nat.le_of_ble_eq_true rfl) dL_law_546 ?_
  rintro _ τ ⟨rfl, hC1, hf1⟩
  have hM1 := hM.keep hf1
  refine lq_a2 dL_law_549 ?_
  refine lq_arg 1 (by decide) (by decide) hn hL dL_law_550 dL_law_551 dL_law_552 dL_law_553 dL_law_554 ?_
  refine lq_callV lm_RL_62 (r5_frames l hM1 Y.1 _) rfl rfl rfl rfl (Nat.lt_of_lt_of_le (by decide) hM1.m.1) (by decide) ⟨by omega, by omega⟩ (Nat.le_of_ble_eq_true rfl) dL_law_555 ?_
  rintro _ ρ ⟨rfl, hM2, hf2⟩
  refine lq_cmpI 880 dL_law_558 (by decide) ?_
  exact lq_widen _ _ (by omega) (by omega) (go _ _ (yoFrames Y _) (hC1.keep hf2) hM2)
set_option maxRecDepth 100000 in
theorem lq_case11 (Y : sY α) (hC : rC α σ) (hM : rM α σ) (hn : n + 5 ≤ Ln) (hL : Ln ≤ 2560) (hk : kc + 7 ≤ 600000) (hs : ks + 81 ≤ 7302250) (go : ∀ β τ, sY β → rC β τ → rM β τ → lq_V l Ln xs (kc + 7) (ks + 81) 880 [(1, .ref 0), (2, .ref 27), (3, .int (nI n))] [] τ) : lq_V l Ln xs kc ks 563 [(1, .ref 0), (2, .ref 27), (3, .int (nI n))] [] σ := by
  refine lq_a1 dL_law_563 ?_
  refine lq_arg 1 (by decide) (by decide) hn hL dL_law_564 dL_law_565 dL_law_566 dL_law_567 dL_law_568 ?_
  refine lq_arg 2 (by decide) (by decide) hn hL dL_law_569 dL_law_570 dL_law_571 dL_law_572 dL_law_573 ?_
  refine lq_callV lm_RL_63 (k4_heard l hC Y.1 _ _) rfl rfl rfl rfl (Nat.lt_of_lt_of_le (by decide) hC.N) (by decide) ⟨by omega, by omega⟩ (Nat.le_of_ble_eq_true rfl) dL_law_574 ?_
  rintro _ τ ⟨rfl, hC1, hf1⟩
  have hM1 := hM.keep hf1
  refine lq_a2 dL_law_577 ?_
  refine lq_arg 1 (by decide) (by decide) hn hL dL_law_578 dL_law_579 dL_law_580 dL_law_581 dL_law_582 ?_
  refine lq_arg 2 (by decide) (by decide) hn hL dL_law_583 dL_law_584 dL_law_585 dL_law_586 dL_law_587 ?_
  refine lq_callV lm_RL_67 (r5_heard l hM1 Y.1 _ _) rfl rfl rfl rfl (Nat.lt_of_lt_of_le (by decide) hM1.m.1) (by decide) ⟨by omega, by omega⟩ (Nat.le_of_ble_eq_true rfl) dL_law_588 ?_
  rintro _ ρ ⟨rfl, hM2, hf2⟩
  refine lq_cmpL 880 dL_law_591 dL_law_592 (by decide) ?_
  exact lq_widen _ _ (by omega) (by omega) (go _ _ Y (hC1.keep hf2) hM2)
set_option maxRecDepth 100000 in
theorem lq_case12 (Y : sY α) (hC : rC α σ) (hM : rM α σ) (hn : n + 5 ≤ Ln) (hL : Ln ≤ 2560) (hk : kc + 7 ≤ 600000) (hs : ks + 81 ≤ 7302250) (go : ∀ β τ, sY β → rC β τ → rM β τ → lq_V l Ln xs (kc + 7) (ks + 81) 880 [(1, .ref 0), (2, .ref 27), (3, .int (nI n))] [] τ) : lq_V l Ln xs kc ks 597 [(1, .ref 0), (2, .ref 27), (3, .int (nI n))] [] σ := by
  refine lq_a1 dL_law_597 ?_
  refine lq_arg 1 (by decide) (by decide) hn hL dL_law_598 dL_law_599 dL_law_600 dL_law_601 dL_law_602 ?_
  refine lq_arg 2 (by decide) (by decide) hn hL dL_law_603 dL_law_604 dL_law_605 dL_law_606 dL_law_607 ?_
  refine lq_callV lm_RL_68 (k4_portableOf l hC Y.1 _ _) rfl rfl rfl rfl (Nat.lt_of_lt_of_le (by decide) hC.N) (by decide) ⟨by omega, by omega⟩ (Nat.le_of_ble_eq_true rfl) dL_law_608 ?_
  rintro _ τ ⟨rfl, hC1, hf1⟩
  have hM1 := hM.keep hf1
  refine lq_a2 dL_law_611 ?_
  refine lq_arg 1 (by decide) (by decide) hn hL dL_law_612 dL_law_613 dL_law_614 dL_law_615 dL_law_616 ?_
  refine lq_arg 2 (by decide) (by decide) hn hL dL_law_617 dL_law_618 dL_law_619 dL_law_620 dL_law_621 ?_
  refine lq_callV lm_RL_71 (r5_portableOf l hM1 Y.1 _ _) rfl rfl rfl rfl (Nat.lt_of_lt_of_le (by decide) hM1.m.1) (by decide) ⟨by omega, by omega⟩ (Nat.le_of_ble_eq_true rfl) dL_law_622 ?_
  rintro _ ρ ⟨rfl, hM2, hf2⟩
  refine lq_cmpI 880 dL_law_625 (by decide) ?_
  exact lq_widen _ _ (by omega) (by omega) (go _ _ Y (hC1.keep hf2) hM2)
set_option maxRecDepth 100000 in
theorem lq_case13 (Y : sY α) (hC : rC α σ) (hM : rM α σ) (hn : n + 5 ≤ Ln) (hL : Ln ≤ 2560) (hk : kc + 7 ≤ 600000) (hs : ks + 81 ≤ 7302250) (go : ∀ β τ, sY β → rC β τ → rM β τ → lq_V l Ln xs (kc + 7) (ks + 81) 880 [(1, .ref 0), (2, .ref 27), (3, .int (nI n))] [] τ) : lq_V l Ln xs kc ks 630 [(1, .ref 0), (2, .ref 27), (3, .int (nI n))] [] σ := by
  refine lq_a1 dL_law_630 ?_
  refine lq_arg 1 (by decide) (by decide) hn hL dL_law_631 dL_law_632 dL_law_633 dL_law_634 dL_law_635 ?_
  refine lq_arg 2 (by decide) (by decide) hn hL dL_law_636 dL_law_637 dL_law_638 dL_law_639 dL_law_640 ?_
  refine lq_callV lm_RL_72 (k4_bearer l hC Y.1 _ _) rfl rfl rfl rfl (Nat.lt_of_lt_of_le (by decide) hC.N) (by decide) ⟨by omega, by omega⟩ (Nat.le_of_ble_eq_true rfl) dL_law_641 ?_
  rintro _ τ ⟨rfl, hC1, hf1⟩
  have hM1 := hM.keep hf1
  refine lq_a2 dL_law_644 ?_
  refine lq_arg 1 (by decide) (by decide) hn hL dL_law_645 dL_law_646 dL_law_647 dL_law_648 dL_law_649 ?_
  refine lq_arg 2 (by decide) (by decide) hn hL dL_law_650 dL_law_651 dL_law_652 dL_law_653 dL_law_654 ?_
  refine lq_callV lm_RL_75 (r5_bearer l hM1 Y.1 _ _) rfl rfl rfl rfl (Nat.lt_of_lt_of_le (by decide) hM1.m.1) (by decide) ⟨by omega, by omega⟩ (Nat.le_of_ble_eq_true rfl) dL_law_655 ?_
  rintro _ ρ ⟨rfl, hM2, hf2⟩
  refine lq_cmpI 880 dL_law_658 (by decide) ?_
  exact lq_widen _ _ (by omega) (by omega) (go _ _ Y (hC1.keep hf2) hM2)
set_option maxRecDepth 100000 in
theorem lq_case14 (Y : sY α) (hC : rC α σ) (hM : rM α σ) (hn : n + 5 ≤ Ln) (hL : Ln ≤ 2560) (hk : kc + 7 ≤ 600000) (hs : ks + 81 ≤ 7302250) (go : ∀ β τ, sY β → rC β τ → rM β τ → lq_V l Ln xs (kc + 7) (ks + 81) 880 [(1, .ref 0), (2, .ref 27), (3, .int (nI n))] [] τ) : lq_V l Ln xs kc ks 663 [(1, .ref 0), (2, .ref 27), (3, .int (nI n))] [] σ := by
  refine lq_a1 dL_law_663 ?_
  refine lq_arg 1 (by decide) (by decide) hn hL dL_law_664 dL_law_665 dL_law_666 dL_law_667 dL_law_668 ?_
  refine lq_arg 2 (by decide) (by decide) hn hL dL_law_669 dL_law_670 dL_law_671 dL_law_672 dL_law_673 ?_
  refine lq_arg 3 (by decide) (by decide) hn hL dL_law_674 dL_law_675 dL_law_676 dL_law_677 dL_law_678 ?_
  refine lq_callV lm_RL_76 (k4_level l hC Y.1 _ _ _) rfl rfl rfl rfl (Nat.lt_of_lt_of_le (by decide) hC.N) (by decide) ⟨by omega, by omega⟩ (Nat.le_of_ble_eq_true rfl) dL_law_679 ?_
  rintro _ τ ⟨rfl, hC1, hf1⟩
  have hM1 := hM.keep hf1
  refine lq_a2 dL_law_682 ?_
  refine lq_arg 1 (by decide) (by decide) hn hL dL_law_683 dL_law_684 dL_law_685 dL_law_686 dL_law_687 ?_
  refine lq_arg 2 (by decide) (by decide) hn hL dL_law_688 dL_law_689 dL_law_690 dL_law_691 dL_law_692 ?_
  refine lq_arg 3 (by decide) (by decide) hn hL dL_law_693 dL_law_694 dL_law_695 dL_law_696 dL_law_697 ?_
  refine lq_callV lm_RL_80 (r5_level l hM1 Y.1 _ _ _) rfl rfl rfl rfl (Nat.lt_of_lt_of_le (by decide) hM1.m.1) (by decide) ⟨by omega, by omega⟩ (Nat.le_of_ble_eq_true rfl) dL_law_698 ?_
  rintro _ ρ ⟨rfl, hM2, hf2⟩
  refine lq_cmpI 880 dL_law_701 (by decide) ?_
  exact lq_widen _ _ (by omega) (by omega) (go _ _ (yoLevel Y _ _ _) (hC1.keep hf2) hM2)
set_option maxRecDepth 100000 in
theorem lq_case15 (Y : sY α) (hC : rC α σ) (hM : rM α σ) (hn : n + 5 ≤ Ln) (hL : Ln ≤ 2560) (hk : kc + 7 ≤ 600000) (hs : ks + 81 ≤ 7302250) (go : ∀ β τ, sY β → rC β τ → rM β τ → lq_V l Ln xs (kc + 7) (ks + 81) 880 [(1, .ref 0), (2, .ref 27), (3, .int (nI n))] [] τ) : lq_V l Ln xs kc ks 706 [(1, .ref 0), (2, .ref 27), (3, .int (nI n))] [] σ := by
  refine lq_a1 dL_law_706 ?_
  refine lq_arg 1 (by decide) (by decide) hn hL dL_law_707 dL_law_708 dL_law_709 dL_law_710 dL_law_711 ?_
  refine lq_arg 2 (by decide) (by decide) hn hL dL_law_712 dL_law_713 dL_law_714 dL_law_715 dL_law_716 ?_
  refine lq_callV lm_RL_81 (k4_beacon l hC Y.1 _ _) rfl rfl rfl rfl (Nat.lt_of_lt_of_le (by decide) hC.N) (by decide) ⟨by omega, by omega⟩ (Nat.le_of_ble_eq_true rfl) dL_law_717 ?_
  rintro _ τ ⟨rfl, hC1, hf1⟩
  have hM1 := hM.keep hf1
  refine lq_a2 dL_law_720 ?_
  refine lq_arg 1 (by decide) (by decide) hn hL dL_law_721 dL_law_722 dL_law_723 dL_law_724 dL_law_725 ?_
  refine lq_arg 2 (by decide) (by decide) hn hL dL_law_726 dL_law_727 dL_law_728 dL_law_729 dL_law_730 ?_
  refine lq_callV lm_RL_85 (r5_beacon l hM1 Y.1 _ _) rfl rfl rfl rfl (Nat.lt_of_lt_of_le (by decide) hM1.m.1) (by decide) ⟨by omega, by omega⟩ (Nat.le_of_ble_eq_true rfl) dL_law_731 ?_
  rintro _ ρ ⟨rfl, hM2, hf2⟩
  refine lq_cmpI 880 dL_law_734 (by decide) ?_
  exact lq_widen _ _ (by omega) (by omega) (go _ _ Y (hC1.keep hf2) hM2)
set_option maxRecDepth 100000 in
theorem lq_case16 (Y : sY α) (hC : rC α σ) (hM : rM α σ) (hn : n + 5 ≤ Ln) (hL : Ln ≤ 2560) (hk : kc + 7 ≤ 600000) (hs : ks + 81 ≤ 7302250) (go : ∀ β τ, sY β → rC β τ → rM β τ → lq_V l Ln xs (kc + 7) (ks + 81) 880 [(1, .ref 0), (2, .ref 27), (3, .int (nI n))] [] τ) : lq_V l Ln xs kc ks 739 [(1, .ref 0), (2, .ref 27), (3, .int (nI n))] [] σ := by
  refine lq_a1 dL_law_739 ?_
  refine lq_arg 1 (by decide) (by decide) hn hL dL_law_740 dL_law_741 dL_law_742 dL_law_743 dL_law_744 ?_
  refine lq_long 2 (by decide) (by decide) hn hL dL_law_745 dL_law_746 dL_law_748 dL_law_749 dL_law_750 dL_law_751 dL_law_752 dL_law_753 dL_law_754 dL_law_755 dL_law_758 dL_law_759 ?_
  refine lq_arg 3 (by decide) (by decide) hn hL dL_law_760 dL_law_761 dL_law_762 dL_law_763 dL_law_764 ?_
  refine lq_long 4 (by decide) (by decide) hn hL dL_law_765 dL_law_766 dL_law_768 dL_law_769 dL_law_770 dL_law_771 dL_law_772 dL_law_773 dL_law_774 dL_law_775 dL_law_778 dL_law_779 ?_
  refine lq_callV lm_RL_86 (k4_mix l hC _ _) rfl rfl rfl rfl (Nat.lt_of_lt_of_le (by decide) hC.N) (by decide) ⟨by omega, by omega⟩ (Nat.le_of_ble_eq_true rfl) dL_law_780 ?_
  rintro _ τ ⟨rfl, hC1, hf1⟩
  have hM1 := hM.keep hf1
  refine lq_a2 dL_law_783 ?_
  refine lq_arg 1 (by decide) (by decide) hn hL dL_law_784 dL_law_785 dL_law_786 dL_law_787 dL_law_788 ?_
  refine lq_long 2 (by decide) (by decide) hn hL dL_law_789 dL_law_790 dL_law_792 dL_law_793 dL_law_794 dL_law_795 dL_law_796 dL_law_797 dL_law_798 dL_law_799 dL_law_802 dL_law_803 ?_
  refine lq_arg 3 (by decide) (by decide) hn hL dL_law_804 dL_law_805 dL_law_806 dL_law_807 dL_law_808 ?_
  refine lq_long 4 (by decide) (by decide) hn hL dL_law_809 dL_law_810 dL_law_812 dL_law_813 dL_law_814 dL_law_815 dL_law_816 dL_law_817 dL_law_818 dL_law_819 dL_law_822 dL_law_823 ?_
  refine lq_callV lm_RL_90 (r5_mix l _ _ _) rfl rfl rfl rfl (Nat.lt_of_lt_of_le (by decide) hM1.m.1) (by decide) ⟨by omega, by omega⟩ (Nat.le_of_ble_eq_true rfl) dL_law_824 ?_
  rintro _ ρ ⟨rfl, rfl⟩
  refine lq_cmpL 880 dL_law_827 dL_law_828 (by decide) ?_
  exact lq_widen _ _ (by omega) (by omega) (go _ _ Y hC1 hM1)
set_option maxRecDepth 100000 in
theorem lq_case17 (Y : sY α) (hC : rC α σ) (hM : rM α σ) (hn : n + 5 ≤ Ln) (hL : Ln ≤ 2560) (hk : kc + 7 ≤ 600000) (hs : ks + 81 ≤ 7302250) (go : ∀ β τ, sY β → rC β τ → rM β τ → lq_V l Ln xs (kc + 7) (ks + 81) 880 [(1, .ref 0), (2, .ref 27), (3, .int (nI n))] [] τ) : lq_V l Ln xs kc ks 833 [(1, .ref 0), (2, .ref 27), (3, .int (nI n))] [] σ := by
  refine lq_a1 dL_law_833 ?_
  refine lq_arg 1 (by decide) (by decide) hn hL dL_law_834 dL_law_835 dL_law_836 dL_law_837 dL_law_838 ?_
  refine lq_callV lm_RL_91 (k4_air l hC _) rfl rfl rfl rfl (Nat.lt_of_lt_of_le (by decide) hC.N) (by decide) ⟨by omega, by omega⟩ (Nat.le_of_ble_eq_true rfl) dL_law_839 ?_
  rintro _ τ ⟨rfl, hC1, hf1⟩
  have hM1 := hM.keep hf1
  refine lq_a2 dL_law_842 ?_
  refine lq_arg 1 (by decide) (by decide) hn hL dL_law_843 dL_law_844 dL_law_845 dL_law_846 dL_law_847 ?_
  refine lq_callV lm_RL_95 (r5_air l hM1 _) rfl rfl rfl rfl (Nat.lt_of_lt_of_le (by decide) hM1.m.1) (by decide) ⟨by omega, by omega⟩ (Nat.le_of_ble_eq_true rfl) dL_law_848 ?_
  rintro _ ρ ⟨rfl, hM2, hf2⟩
  refine lq_cmpL 880 dL_law_851 dL_law_852 (by decide) ?_
  exact lq_widen _ _ (by omega) (by omega) (go _ _ Y (hC1.keep hf2) hM2)
set_option maxRecDepth 100000 in
theorem lq_case18 (Y : sY α) (hC : rC α σ) (hM : rM α σ) (hn : n + 5 ≤ Ln) (hL : Ln ≤ 2560) (hk : kc + 7 ≤ 600000) (hs : ks + 81 ≤ 7302250) (go : ∀ β τ, sY β → rC β τ → rM β τ → lq_V l Ln xs (kc + 7) (ks + 81) 880 [(1, .ref 0), (2, .ref 27), (3, .int (nI n))] [] τ) : lq_V l Ln xs kc ks 857 [(1, .ref 0), (2, .ref 27), (3, .int (nI n))] [] σ := by
  refine lq_a1 dL_law_857 ?_
  refine lq_arg 1 (by decide) (by decide) hn hL dL_law_858 dL_law_859 dL_law_860 dL_law_861 dL_law_862 ?_
  refine lq_callV lm_RL_96 (k4_count l hC _) rfl rfl rfl rfl (Nat.lt_of_lt_of_le (by decide) hC.N) (by decide) ⟨by omega, by omega⟩ (Nat.le_of_ble_eq_true rfl) dL_law_863 ?_
  rintro _ τ ⟨rfl, hC1, hf1⟩
  have hM1 := hM.keep hf1
  refine lq_a2 dL_law_866 ?_
  refine lq_arg 1 (by decide) (by decide) hn hL dL_law_867 dL_law_868 dL_law_869 dL_law_870 dL_law_871 ?_
  refine lq_callV lm_RL_99 (r5_count l hM1 _) rfl rfl rfl rfl (Nat.lt_of_lt_of_le (by decide) hM1.m.1) (by decide) ⟨by omega, by omega⟩ (Nat.le_of_ble_eq_true rfl) dL_law_872 ?_
  rintro _ ρ ⟨rfl, hM2, hf2⟩
  refine lq_cmpI 880 dL_law_875 (by decide) ?_
  exact lq_widen _ _ (by omega) (by omega) (go _ _ Y (hC1.keep hf2) hM2)
end LC
