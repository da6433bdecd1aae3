theorem dL_law_240 : decode code 240 = .ok (.aload_n 1, 1) := by decide +kernel
theorem dL_law_241 : decode code 241 = .ok (.aload_n 0, 1) := by decide +kernel
theorem dL_law_242 : decode code 242 = .ok (.iload 4, 2) := by decide +kernel
theorem dL_law_244 : decode code 244 = .ok (.iconst 1, 1) := by decide +kernel
theorem dL_law_245 : decode code 245 = .ok (.iadd, 1) := by decide +kernel
theorem dL_law_246 : decode code 246 = .ok (.iaload, 1) := by decide +kernel
theorem dL_law_247 : decode code 247 = .ok (.invokevirtual 21, 3) := by decide +kernel
theorem dL_law_250 : decode code 250 = .ok (.aload_n 2, 1) := by decide +kernel
theorem dL_law_251 : decode code 251 = .ok (.aload_n 0, 1) := by decide +kernel
theorem dL_law_252 : decode code 252 = .ok (.iload 4, 2) := by decide +kernel
theorem dL_law_254 : decode code 254 = .ok (.iconst 1, 1) := by decide +kernel
theorem dL_law_255 : decode code 255 = .ok (.iadd, 1) := by decide +kernel
theorem dL_law_256 : decode code 256 = .ok (.iaload, 1) := by decide +kernel
theorem dL_law_257 : decode code 257 = .ok (.invokevirtual 25, 3) := by decide +kernel
theorem dL_law_260 : decode code 260 = .ok (.if_icmp .eq 1678, 3) := by decide +kernel
theorem hv_L_21 : a_okV RL M_X3_mountain 21 := ⟨a_in 212 (by decide +kernel) rfl, a_in 213 (by decide +kernel) rfl, a_in 214 (by decide +kernel) rfl⟩
theorem hv_L_25 : a_okV RL M_X4_mountain 25 := ⟨a_in 982 (by decide +kernel) rfl, a_in 983 (by decide +kernel) rfl, a_in 984 (by decide +kernel) rfl⟩
theorem lc_mountain {K : lK} (h : K.Ok) {t u : Nat} (hf : t ≤ 601024 ∧ u ≤ 7293034) {w : aW} {X : aX} {Y : aY} (hI : Inv X Y) {a : Int32} (hin : ∀ v : Int32, v = 1 ∨ v = 2 ∨ v = 3 ∨ v = 4 ∨ v = 5 → vp_in (a + v) K.n) (next : ∀ (X' : aX) (Y' : aY), Inv X' Y' → Lw K t u 1938 (lL a) [] (Wd w X' Y')) : Lw K t u 240 (lL a) [] (Wd w X Y) := by
  obtain ⟨r, w1, X', Y', hO, h3, h4, hI'⟩ := st_mountain hI w (K.xs (a + 1).toNatClampNeg)
  refine l_aload h dL_law_240 rfl rfl ?_
  refine l_arg h dL_law_241 dL_law_242 dL_law_244 dL_law_245 dL_law_246 kc_1 rfl rfl (hin 1 (by decide)) ?_
  refine l_call (rv' := rvI) (c0 := 2) (S := []) h hf rfl rfl ok_X3_mountain ⟨Nat.le_of_ble_eq_true rfl, Nat.le_of_ble_eq_true rfl⟩ hv_L_21 dL_law_247 (l_obj w X Y) (s_X3_mountain 0 _ _) h3 rfl rfl (Nat.le_of_ble_eq_true rfl) ?_
  refine l_aload h dL_law_250 rfl rfl ?_
  refine l_arg h dL_law_251 dL_law_252 dL_law_254 dL_law_255 dL_law_256 kc_1 rfl rfl (hin 1 (by decide)) ?_
  refine l_call (rv' := rvI) (c0 := 3) (S := [.int r]) h hf rfl rfl ok_X4_mountain ⟨Nat.le_of_ble_eq_true rfl, Nat.le_of_ble_eq_true rfl⟩ hv_L_25 dL_law_257 hO (s_X4_mountain 50 _ _) h4 rfl rfl (Nat.le_of_ble_eq_true rfl) ?_
  exact l_eq h dL_law_260 (by decide) (next X' Y' hI')
theorem dL_law_265 : decode code 265 = .ok (.aload_n 1, 1) := by decide +kernel
theorem dL_law_266 : decode code 266 = .ok (.aload_n 0, 1) := by decide +kernel
theorem dL_law_267 : decode code 267 = .ok (.iload 4, 2) := by decide +kernel
theorem dL_law_269 : decode code 269 = .ok (.iconst 1, 1) := by decide +kernel
theorem dL_law_270 : decode code 270 = .ok (.iadd, 1) := by decide +kernel
theorem dL_law_271 : decode code 271 = .ok (.iaload, 1) := by decide +kernel
theorem dL_law_272 : decode code 272 = .ok (.aload_n 0, 1) := by decide +kernel
theorem dL_law_273 : decode code 273 = .ok (.iload 4, 2) := by decide +kernel
theorem dL_law_275 : decode code 275 = .ok (.iconst 2, 1) := by decide +kernel
theorem dL_law_276 : decode code 276 = .ok (.iadd, 1) := by decide +kernel
theorem dL_law_277 : decode code 277 = .ok (.iaload, 1) := by decide +kernel
theorem dL_law_278 : decode code 278 = .ok (.invokevirtual 26, 3) := by decide +kernel
theorem dL_law_281 : decode code 281 = .ok (.aload_n 2, 1) := by decide +kernel
theorem dL_law_282 : decode code 282 = .ok (.aload_n 0, 1) := by decide +kernel
theorem dL_law_283 : decode code 283 = .ok (.iload 4, 2) := by decide +kernel
theorem dL_law_285 : decode code 285 = .ok (.iconst 1, 1) := by decide +kernel
theorem dL_law_286 : decode code 286 = .ok (.iadd, 1) := by decide +kernel
theorem dL_law_287 : decode code 287 = .ok (.iaload, 1) := by decide +kernel
theorem dL_law_288 : decode code 288 = .ok (.aload_n 0, 1) := by decide +kernel
theorem dL_law_289 : decode code 289 = .ok (.iload 4, 2) := by decide +kernel
theorem dL_law_291 : decode code 291 = .ok (.iconst 2, 1) := by decide +kernel
theorem dL_law_292 : decode code 292 = .ok (.iadd, 1) := by decide +kernel
theorem dL_law_293 : decode code 293 = .ok (.iaload, 1) := by decide +kernel
theorem dL_law_294 : decode code 294 = .ok (.invokevirtual 30, 3) := by decide +kernel
theorem dL_law_297 : decode code 297 = .ok (.if_icmp .eq 1641, 3) := by decide +kernel
theorem hv_L_26 : a_okV RL M_X3_beast 26 := ⟨a_in 389 (by decide +kernel) rfl, a_in 390 (by decide +kernel) rfl, a_in 391 (by decide +kernel) rfl⟩
theorem hv_L_30 : a_okV RL M_X4_beast 30 := ⟨a_in 1137 (by decide +kernel) rfl, a_in 1138 (by decide +kernel) rfl, a_in 1139 (by decide +kernel) rfl⟩
theorem lc_beast {K : lK} (h : K.Ok) {t u : Nat} (hf : t ≤ 601024 ∧ u ≤ 7293034) {w : aW} {X : aX} {Y : aY} (hI : Inv X Y) {a : Int32} (hin : ∀ v : Int32, v = 1 ∨ v = 2 ∨ v = 3 ∨ v = 4 ∨ v = 5 → vp_in (a + v) K.n) (next : ∀ (X' : aX) (Y' : aY), Inv X' Y' → Lw K t u 1938 (lL a) [] (Wd w X' Y')) : Lw K t u 265 (lL a) [] (Wd w X Y) := by
  obtain ⟨r, w1, X', Y', hO, h3, h4, hI'⟩ := st_beast hI w (K.xs (a + 1).toNatClampNeg) (K.xs (a + 2).toNatClampNeg)
  refine l_aload h dL_law_265 rfl rfl ?_
  refine l_arg h dL_law_266 dL_law_267 dL_law_269 dL_law_270 dL_law_271 kc_1 rfl rfl (hin 1 (by decide)) ?_
  refine l_arg h dL_law_272 dL_law_273 dL_law_275 dL_law_276 dL_law_277 kc_2 rfl rfl (hin 2 (by decide)) ?_
  refine l_call (rv' := rvI) (c0 := 2) (S := []) h hf rfl rfl ok_X3_beast ⟨Nat.le_of_ble_eq_true rfl, Nat.le_of_ble_eq_true rfl⟩ hv_L_26 dL_law_278 (l_obj w X Y) (s_X3_beast 0 _ _ _) h3 rfl rfl (Nat.le_of_ble_eq_true rfl) ?_
  refine l_aload h dL_law_281 rfl rfl ?_
  refine l_arg h dL_law_282 dL_law_283 dL_law_285 dL_law_286 dL_law_287 kc_1 rfl rfl (hin 1 (by decide)) ?_
  refine l_arg h dL_law_288 dL_law_289 dL_law_291 dL_law_292 dL_law_293 kc_2 rfl rfl (hin 2 (by decide)) ?_
  refine l_call (rv' := rvI) (c0 := 3) (S := [.int r]) h hf rfl rfl ok_X4_beast ⟨Nat.le_of_ble_eq_true rfl, Nat.le_of_ble_eq_true rfl⟩ hv_L_30 dL_law_294 hO (s_X4_beast 50 _ _ _) h4 rfl rfl (Nat.le_of_ble_eq_true rfl) ?_
  exact l_eq h dL_law_297 (by decide) (next X' Y' hI')
theorem dL_law_302 : decode code 302 = .ok (.aload_n 1, 1) := by decide +kernel
theorem dL_law_303 : decode code 303 = .ok (.aload_n 0, 1) := by decide +kernel
theorem dL_law_304 : decode code 304 = .ok (.iload 4, 2) := by decide +kernel
theorem dL_law_306 : decode code 306 = .ok (.iconst 1, 1) := by decide +kernel
theorem dL_law_307 : decode code 307 = .ok (.iadd, 1) := by decide +kernel
theorem dL_law_308 : decode code 308 = .ok (.iaload, 1) := by decide +kernel
theorem dL_law_309 : decode code 309 = .ok (.aload_n 0, 1) := by decide +kernel
theorem dL_law_310 : decode code 310 = .ok (.iload 4, 2) := by decide +kernel
theorem dL_law_312 : decode code 312 = .ok (.iconst 2, 1) := by decide +kernel
theorem dL_law_313 : decode code 313 = .ok (.iadd, 1) := by decide +kernel
theorem dL_law_314 : decode code 314 = .ok (.iaload, 1) := by decide +kernel
theorem dL_law_315 : decode code 315 = .ok (.invokevirtual 31, 3) := by decide +kernel
theorem dL_law_318 : decode code 318 = .ok (.aload_n 2, 1) := by decide +kernel
theorem dL_law_319 : decode code 319 = .ok (.aload_n 0, 1) := by decide +kernel
theorem dL_law_320 : decode code 320 = .ok (.iload 4, 2) := by decide +kernel
theorem dL_law_322 : decode code 322 = .ok (.iconst 1, 1) := by decide +kernel
theorem dL_law_323 : decode code 323 = .ok (.iadd, 1) := by decide +kernel
theorem dL_law_324 : decode code 324 = .ok (.iaload, 1) := by decide +kernel
theorem dL_law_325 : decode code 325 = .ok (.aload_n 0, 1) := by decide +kernel
theorem dL_law_326 : decode code 326 = .ok (.iload 4, 2) := by decide +kernel
theorem dL_law_328 : decode code 328 = .ok (.iconst 2, 1) := by decide +kernel
theorem dL_law_329 : decode code 329 = .ok (.iadd, 1) := by decide +kernel
theorem dL_law_330 : decode code 330 = .ok (.iaload, 1) := by decide +kernel
theorem dL_law_331 : decode code 331 = .ok (.invokevirtual 34, 3) := by decide +kernel
theorem dL_law_334 : decode code 334 = .ok (.if_icmp .eq 1604, 3) := by decide +kernel
theorem hv_L_31 : a_okV RL M_X3_person 31 := ⟨a_in 398 (by decide +kernel) rfl, a_in 399 (by decide +kernel) rfl, a_in 400 (by decide +kernel) rfl⟩
theorem hv_L_34 : a_okV RL M_X4_person 34 := ⟨a_in 1142 (by decide +kernel) rfl, a_in 1143 (by decide +kernel) rfl, a_in 1144 (by decide +kernel) rfl⟩
theorem lc_person {K : lK} (h : K.Ok) {t u : Nat} (hf : t ≤ 601024 ∧ u ≤ 7293034) {w : aW} {X : aX} {Y : aY} (hI : Inv X Y) {a : Int32} (hin : ∀ v : Int32, v = 1 ∨ v = 2 ∨ v = 3 ∨ v = 4 ∨ v = 5 → vp_in (a + v) K.n) (next : ∀ (X' : aX) (Y' : aY), Inv X' Y' → Lw K t u 1938 (lL a) [] (Wd w X' Y')) : Lw K t u 302 (lL a) [] (Wd w X Y) := by
  obtain ⟨r, w1, X', Y', hO, h3, h4, hI'⟩ := st_person hI w (K.xs (a + 1).toNatClampNeg) (K.xs (a + 2).toNatClampNeg)
  refine l_aload h dL_law_302 rfl rfl ?_
  refine l_arg h dL_law_303 dL_law_304 dL_law_306 dL_law_307 dL_law_308 kc_1 rfl rfl (hin 1 (by decide)) ?_
  refine l_arg h dL_law_309 dL_law_310 dL_law_312 dL_law_313 dL_law_314 kc_2 rfl rfl (hin 2 (by decide)) ?_
  refine l_call (rv' := rvI) (c0 := 2) (S := []) h hf rfl rfl ok_X3_person ⟨Nat.le_of_ble_eq_true rfl, Nat.le_of_ble_eq_true rfl⟩ hv_L_31 dL_law_315 (l_obj w X Y) (s_X3_person 0 _ _ _) h3 rfl rfl (Nat.le_of_ble_eq_true rfl) ?_
  refine l_aload h dL_law_318 rfl rfl ?_
  refine l_arg h dL_law_319 dL_law_320 dL_law_322 dL_law_323 dL_law_324 kc_1 rfl rfl (hin 1 (by decide)) ?_
  refine l_arg h dL_law_325 dL_law_326 dL_law_328 dL_law_329 dL_law_330 kc_2 rfl rfl (hin 2 (by decide)) ?_
  refine l_call (rv' := rvI) (c0 := 3) (S := [.int r]) h hf rfl rfl ok_X4_person ⟨Nat.le_of_ble_eq_true rfl, Nat.le_of_ble_eq_true rfl⟩ hv_L_34 dL_law_331 hO (s_X4_person 50 _ _ _) h4 rfl rfl (Nat.le_of_ble_eq_true rfl) ?_
  exact l_eq h dL_law_334 (by decide) (next X' Y' hI')
theorem dL_law_339 : decode code 339 = .ok (.aload_n 1, 1) := by decide +kernel
theorem dL_law_340 : decode code 340 = .ok (.aload_n 0, 1) := by decide +kernel
theorem dL_law_341 : decode code 341 = .ok (.iload 4, 2) := by decide +kernel
theorem dL_law_343 : decode code 343 = .ok (.iconst 1, 1) := by decide +kernel
theorem dL_law_344 : decode code 344 = .ok (.iadd, 1) := by decide +kernel
theorem dL_law_345 : decode code 345 = .ok (.iaload, 1) := by decide +kernel
theorem dL_law_346 : decode code 346 = .ok (.aload_n 0, 1) := by decide +kernel
theorem dL_law_347 : decode code 347 = .ok (.iload 4, 2) := by decide +kernel
theorem dL_law_349 : decode code 349 = .ok (.iconst 2, 1) := by decide +kernel
theorem dL_law_350 : decode code 350 = .ok (.iadd, 1) := by decide +kernel
theorem dL_law_351 : decode code 351 = .ok (.iaload, 1) := by decide +kernel
theorem dL_law_352 : decode code 352 = .ok (.invokevirtual 35, 3) := by decide +kernel
theorem dL_law_355 : decode code 355 = .ok (.aload_n 2, 1) := by decide +kernel
theorem dL_law_356 : decode code 356 = .ok (.aload_n 0, 1) := by decide +kernel
theorem dL_law_357 : decode code 357 = .ok (.iload 4, 2) := by decide +kernel
theorem dL_law_359 : decode code 359 = .ok (.iconst 1, 1) := by decide +kernel
theorem dL_law_360 : decode code 360 = .ok (.iadd, 1) := by decide +kernel
theorem dL_law_361 : decode code 361 = .ok (.iaload, 1) := by decide +kernel
theorem dL_law_362 : decode code 362 = .ok (.aload_n 0, 1) := by decide +kernel
theorem dL_law_363 : decode code 363 = .ok (.iload 4, 2) := by decide +kernel
theorem dL_law_365 : decode code 365 = .ok (.iconst 2, 1) := by decide +kernel
theorem dL_law_366 : decode code 366 = .ok (.iadd, 1) := by decide +kernel
theorem dL_law_367 : decode code 367 = .ok (.iaload, 1) := by decide +kernel
theorem dL_law_368 : decode code 368 = .ok (.invokevirtual 38, 3) := by decide +kernel
theorem dL_law_371 : decode code 371 = .ok (.if_icmp .eq 1567, 3) := by decide +kernel
theorem hv_L_35 : a_okV RL M_X3_comes 35 := ⟨a_in 419 (by decide +kernel) rfl, a_in 420 (by decide +kernel) rfl, a_in 421 (by decide +kernel) rfl⟩
theorem hv_L_38 : a_okV RL M_X4_comes 38 := ⟨a_in 1159 (by decide +kernel) rfl, a_in 1160 (by decide +kernel) rfl, a_in 1161 (by decide +kernel) rfl⟩
theorem lc_comes {K : lK} (h : K.Ok) {t u : Nat} (hf : t ≤ 601024 ∧ u ≤ 7293034) {w : aW} {X : aX} {Y : aY} (hI : Inv X Y) {a : Int32} (hin : ∀ v : Int32, v = 1 ∨ v = 2 ∨ v = 3 ∨ v = 4 ∨ v = 5 → vp_in (a + v) K.n) (next : ∀ (X' : aX) (Y' : aY), Inv X' Y' → Lw K t u 1938 (lL a) [] (Wd w X' Y')) : Lw K t u 339 (lL a) [] (Wd w X Y) := by
  obtain ⟨r, w1, X', Y', hO, h3, h4, hI'⟩ := st_comes hI w (K.xs (a + 1).toNatClampNeg) (K.xs (a + 2).toNatClampNeg)
  refine l_aload h dL_law_339 rfl rfl ?_
  refine l_arg h dL_law_340 dL_law_341 dL_law_343 dL_law_344 dL_law_345 kc_1 rfl rfl (hin 1 (by decide)) ?_
  refine l_arg h dL_law_346 dL_law_347 dL_law_349 dL_law_350 dL_law_351 kc_2 rfl rfl (hin 2 (by decide)) ?_
  refine l_call (rv' := rvI) (c0 := 2) (S := []) h hf rfl rfl ok_X3_comes ⟨Nat.le_of_ble_eq_true rfl, Nat.le_of_ble_eq_true rfl⟩ hv_L_35 dL_law_352 (l_obj w X Y) (s_X3_comes 0 _ _ _) h3 rfl rfl (Nat.le_of_ble_eq_true rfl) ?_
  refine l_aload h dL_law_355 rfl rfl ?_
  refine l_arg h dL_law_356 dL_law_357 dL_law_359 dL_law_360 dL_law_361 kc_1 rfl rfl (hin 1 (by decide)) ?_
  refine l_arg h dL_law_362 dL_law_363 dL_law_365 dL_law_366 dL_law_367 kc_2 rfl rfl (hin 2 (by decide)) ?_
  refine l_call (rv' := rvI) (c0 := 3) (S := [.int r]) h hf rfl rfl ok_X4_comes ⟨Nat.le_of_ble_eq_true rfl, Nat.le_of_ble_eq_true rfl⟩ hv_L_38 dL_law_368 hO (s_X4_comes 50 _ _ _) h4 rfl rfl (Nat.le_of_ble_eq_true rfl) ?_
  exact l_eq h dL_law_371 (by decide) (next X' Y' hI')
theorem dL_law_376 : decode code 376 = .ok (.aload_n 1, 1) := by decide +kernel
theorem dL_law_377 : decode code 377 = .ok (.aload_n 0, 1) := by decide +kernel
theorem dL_law_378 : decode code 378 = .ok (.iload 4, 2) := by decide +kernel
theorem dL_law_380 : decode code 380 = .ok (.iconst 1, 1) := by decide +kernel
theorem dL_law_381 : decode code 381 = .ok (.iadd, 1) := by decide +kernel
theorem dL_law_382 : decode code 382 = .ok (.iaload, 1) := by decide +kernel
theorem dL_law_383 : decode code 383 = .ok (.aload_n 0, 1) := by decide +kernel
theorem dL_law_384 : decode code 384 = .ok (.iload 4, 2) := by decide +kernel
theorem dL_law_386 : decode code 386 = .ok (.iconst 2, 1) := by decide +kernel
theorem dL_law_387 : decode code 387 = .ok (.iadd, 1) := by decide +kernel
theorem dL_law_388 : decode code 388 = .ok (.iaload, 1) := by decide +kernel
theorem dL_law_389 : decode code 389 = .ok (.invokevirtual 39, 3) := by decide +kernel
theorem dL_law_392 : decode code 392 = .ok (.aload_n 2, 1) := by decide +kernel
theorem dL_law_393 : decode code 393 = .ok (.aload_n 0, 1) := by decide +kernel
theorem dL_law_394 : decode code 394 = .ok (.iload 4, 2) := by decide +kernel
theorem dL_law_396 : decode code 396 = .ok (.iconst 1, 1) := by decide +kernel
theorem dL_law_397 : decode code 397 = .ok (.iadd, 1) := by decide +kernel
theorem dL_law_398 : decode code 398 = .ok (.iaload, 1) := by decide +kernel
theorem dL_law_399 : decode code 399 = .ok (.aload_n 0, 1) := by decide +kernel
theorem dL_law_400 : decode code 400 = .ok (.iload 4, 2) := by decide +kernel
theorem dL_law_402 : decode code 402 = .ok (.iconst 2, 1) := by decide +kernel
theorem dL_law_403 : decode code 403 = .ok (.iadd, 1) := by decide +kernel
theorem dL_law_404 : decode code 404 = .ok (.iaload, 1) := by decide +kernel
theorem dL_law_405 : decode code 405 = .ok (.invokevirtual 42, 3) := by decide +kernel
theorem dL_law_408 : decode code 408 = .ok (.if_icmp .eq 1530, 3) := by decide +kernel
theorem hv_L_39 : a_okV RL M_X3_stands 39 := ⟨a_in 428 (by decide +kernel) rfl, a_in 429 (by decide +kernel) rfl, a_in 430 (by decide +kernel) rfl⟩
theorem hv_L_42 : a_okV RL M_X4_stands 42 := ⟨a_in 1167 (by decide +kernel) rfl, a_in 1168 (by decide +kernel) rfl, a_in 1169 (by decide +kernel) rfl⟩
theorem lc_stands {K : lK} (h : K.Ok) {t u : Nat} (hf : t ≤ 601024 ∧ u ≤ 7293034) {w : aW} {X : aX} {Y : aY} (hI : Inv X Y) {a : Int32} (hin : ∀ v : Int32, v = 1 ∨ v = 2 ∨ v = 3 ∨ v = 4 ∨ v = 5 → vp_in (a + v) K.n) (next : ∀ (X' : aX) (Y' : aY), Inv X' Y' → Lw K t u 1938 (lL a) [] (Wd w X' Y')) : Lw K t u 376 (lL a) [] (Wd w X Y) := by
  obtain ⟨r, w1, X', Y', hO, h3, h4, hI'⟩ := st_stands hI w (K.xs (a + 1).toNatClampNeg) (K.xs (a + 2).toNatClampNeg)
  refine l_aload h dL_law_376 rfl rfl ?_
  refine l_arg h dL_law_377 dL_law_378 dL_law_380 dL_law_381 dL_law_382 kc_1 rfl rfl (hin 1 (by decide)) ?_
  refine l_arg h dL_law_383 dL_law_384 dL_law_386 dL_law_387 dL_law_388 kc_2 rfl rfl (hin 2 (by decide)) ?_
  refine l_call (rv' := rvI) (c0 := 2) (S := []) h hf rfl rfl ok_X3_stands ⟨Nat.le_of_ble_eq_true rfl, Nat.le_of_ble_eq_true rfl⟩ hv_L_39 dL_law_389 (l_obj w X Y) (s_X3_stands 0 _ _ _) h3 rfl rfl (Nat.le_of_ble_eq_true rfl) ?_
  refine l_aload h dL_law_392 rfl rfl ?_
  refine l_arg h dL_law_393 dL_law_394 dL_law_396 dL_law_397 dL_law_398 kc_1 rfl rfl (hin 1 (by decide)) ?_
  refine l_arg h dL_law_399 dL_law_400 dL_law_402 dL_law_403 dL_law_404 kc_2 rfl rfl (hin 2 (by decide)) ?_
  refine l_call (rv' := rvI) (c0 := 3) (S := [.int r]) h hf rfl rfl ok_X4_stands ⟨Nat.le_of_ble_eq_true rfl, Nat.le_of_ble_eq_true rfl⟩ hv_L_42 dL_law_405 hO (s_X4_stands 50 _ _ _) h4 rfl rfl (Nat.le_of_ble_eq_true rfl) ?_
  exact l_eq h dL_law_408 (by decide) (next X' Y' hI')
