theorem dL_law_1290 : decode code 1290 = .ok (.aload_n 1, 1) := by decide +kernel
theorem dL_law_1291 : decode code 1291 = .ok (.aload_n 0, 1) := by decide +kernel
theorem dL_law_1292 : decode code 1292 = .ok (.iload 4, 2) := by decide +kernel
theorem dL_law_1294 : decode code 1294 = .ok (.iconst 1, 1) := by decide +kernel
theorem dL_law_1295 : decode code 1295 = .ok (.iadd, 1) := by decide +kernel
theorem dL_law_1296 : decode code 1296 = .ok (.iaload, 1) := by decide +kernel
theorem dL_law_1297 : decode code 1297 = .ok (.aload_n 0, 1) := by decide +kernel
theorem dL_law_1298 : decode code 1298 = .ok (.iload 4, 2) := by decide +kernel
theorem dL_law_1300 : decode code 1300 = .ok (.iconst 2, 1) := by decide +kernel
theorem dL_law_1301 : decode code 1301 = .ok (.iadd, 1) := by decide +kernel
theorem dL_law_1302 : decode code 1302 = .ok (.iaload, 1) := by decide +kernel
theorem dL_law_1303 : decode code 1303 = .ok (.aload_n 0, 1) := by decide +kernel
theorem dL_law_1304 : decode code 1304 = .ok (.iload 4, 2) := by decide +kernel
theorem dL_law_1306 : decode code 1306 = .ok (.iconst 3, 1) := by decide +kernel
theorem dL_law_1307 : decode code 1307 = .ok (.iadd, 1) := by decide +kernel
theorem dL_law_1308 : decode code 1308 = .ok (.iaload, 1) := by decide +kernel
theorem dL_law_1309 : decode code 1309 = .ok (.invokevirtual 145, 3) := by decide +kernel
theorem dL_law_1312 : decode code 1312 = .ok (.aload_n 2, 1) := by decide +kernel
theorem dL_law_1313 : decode code 1313 = .ok (.aload_n 0, 1) := by decide +kernel
theorem dL_law_1314 : decode code 1314 = .ok (.iload 4, 2) := by decide +kernel
theorem dL_law_1316 : decode code 1316 = .ok (.iconst 1, 1) := by decide +kernel
theorem dL_law_1317 : decode code 1317 = .ok (.iadd, 1) := by decide +kernel
theorem dL_law_1318 : decode code 1318 = .ok (.iaload, 1) := by decide +kernel
theorem dL_law_1319 : decode code 1319 = .ok (.aload_n 0, 1) := by decide +kernel
theorem dL_law_1320 : decode code 1320 = .ok (.iload 4, 2) := by decide +kernel
theorem dL_law_1322 : decode code 1322 = .ok (.iconst 2, 1) := by decide +kernel
theorem dL_law_1323 : decode code 1323 = .ok (.iadd, 1) := by decide +kernel
theorem dL_law_1324 : decode code 1324 = .ok (.iaload, 1) := by decide +kernel
theorem dL_law_1325 : decode code 1325 = .ok (.aload_n 0, 1) := by decide +kernel
theorem dL_law_1326 : decode code 1326 = .ok (.iload 4, 2) := by decide +kernel
theorem dL_law_1328 : decode code 1328 = .ok (.iconst 3, 1) := by decide +kernel
theorem dL_law_1329 : decode code 1329 = .ok (.iadd, 1) := by decide +kernel
theorem dL_law_1330 : decode code 1330 = .ok (.iaload, 1) := by decide +kernel
theorem dL_law_1331 : decode code 1331 = .ok (.invokevirtual 148, 3) := by decide +kernel
theorem dL_law_1334 : decode code 1334 = .ok (.if_icmp .eq 604, 3) := by decide +kernel
theorem hv_L_145 : a_okV RL M_X3_two 145 := ⟨a_in 616 (by decide +kernel) rfl, a_in 617 (by decide +kernel) rfl, a_in 618 (by decide +kernel) rfl⟩
theorem hv_L_148 : a_okV RL M_X4_two 148 := ⟨a_in 1355 (by decide +kernel) rfl, a_in 1356 (by decide +kernel) rfl, a_in 1357 (by decide +kernel) rfl⟩
theorem lc_two {K : lK} (h : K.Ok) {t u : Nat} (hf : t ≤ 601024 ∧ u ≤ 7293034) {w : aW} {X : aX} {Y : aY} (hI : Inv X Y) {a : Int32} (hin : ∀ v : Int32, v = 1 ∨ v = 2 ∨ v = 3 ∨ v = 4 ∨ v = 5 → vp_in (a + v) K.n) (next : ∀ (X' : aX) (Y' : aY), Inv X' Y' → Lw K t u 1938 (lL a) [] (Wd w X' Y')) : Lw K t u 1290 (lL a) [] (Wd w X Y) := by
  obtain ⟨r, w1, X', Y', hO, h3, h4, hI'⟩ := st_two hI w (K.xs (a + 1).toNatClampNeg) (K.xs (a + 2).toNatClampNeg) (K.xs (a + 3).toNatClampNeg)
  refine l_aload h dL_law_1290 rfl rfl ?_
  refine l_arg h dL_law_1291 dL_law_1292 dL_law_1294 dL_law_1295 dL_law_1296 kc_1 rfl rfl (hin 1 (by decide)) ?_
  refine l_arg h dL_law_1297 dL_law_1298 dL_law_1300 dL_law_1301 dL_law_1302 kc_2 rfl rfl (hin 2 (by decide)) ?_
  refine l_arg h dL_law_1303 dL_law_1304 dL_law_1306 dL_law_1307 dL_law_1308 kc_3 rfl rfl (hin 3 (by decide)) ?_
  refine l_call (rv' := rvI) (c0 := 2) (S := []) h hf rfl rfl ok_X3_two ⟨Nat.le_of_ble_eq_true rfl, Nat.le_of_ble_eq_true rfl⟩ hv_L_145 dL_law_1309 (l_obj w X Y) (s_X3_two 0 _ _ _ _) h3 rfl rfl (Nat.le_of_ble_eq_true rfl) ?_
  refine l_aload h dL_law_1312 rfl rfl ?_
  refine l_arg h dL_law_1313 dL_law_1314 dL_law_1316 dL_law_1317 dL_law_1318 kc_1 rfl rfl (hin 1 (by decide)) ?_
  refine l_arg h dL_law_1319 dL_law_1320 dL_law_1322 dL_law_1323 dL_law_1324 kc_2 rfl rfl (hin 2 (by decide)) ?_
  refine l_arg h dL_law_1325 dL_law_1326 dL_law_1328 dL_law_1329 dL_law_1330 kc_3 rfl rfl (hin 3 (by decide)) ?_
  refine l_call (rv' := rvI) (c0 := 3) (S := [.int r]) h hf rfl rfl ok_X4_two ⟨Nat.le_of_ble_eq_true rfl, Nat.le_of_ble_eq_true rfl⟩ hv_L_148 dL_law_1331 hO (s_X4_two 50 _ _ _ _) h4 rfl rfl (Nat.le_of_ble_eq_true rfl) ?_
  exact l_eq h dL_law_1334 (by decide) (next X' Y' hI')
theorem dL_law_1339 : decode code 1339 = .ok (.aload_n 1, 1) := by decide +kernel
theorem dL_law_1340 : decode code 1340 = .ok (.aload_n 0, 1) := by decide +kernel
theorem dL_law_1341 : decode code 1341 = .ok (.iload 4, 2) := by decide +kernel
theorem dL_law_1343 : decode code 1343 = .ok (.iconst 1, 1) := by decide +kernel
theorem dL_law_1344 : decode code 1344 = .ok (.iadd, 1) := by decide +kernel
theorem dL_law_1345 : decode code 1345 = .ok (.iaload, 1) := by decide +kernel
theorem dL_law_1346 : decode code 1346 = .ok (.aload_n 0, 1) := by decide +kernel
theorem dL_law_1347 : decode code 1347 = .ok (.iload 4, 2) := by decide +kernel
theorem dL_law_1349 : decode code 1349 = .ok (.iconst 2, 1) := by decide +kernel
theorem dL_law_1350 : decode code 1350 = .ok (.iadd, 1) := by decide +kernel
theorem dL_law_1351 : decode code 1351 = .ok (.iaload, 1) := by decide +kernel
theorem dL_law_1352 : decode code 1352 = .ok (.aload_n 0, 1) := by decide +kernel
theorem dL_law_1353 : decode code 1353 = .ok (.iload 4, 2) := by decide +kernel
theorem dL_law_1355 : decode code 1355 = .ok (.iconst 3, 1) := by decide +kernel
theorem dL_law_1356 : decode code 1356 = .ok (.iadd, 1) := by decide +kernel
theorem dL_law_1357 : decode code 1357 = .ok (.iaload, 1) := by decide +kernel
theorem dL_law_1358 : decode code 1358 = .ok (.aload_n 0, 1) := by decide +kernel
theorem dL_law_1359 : decode code 1359 = .ok (.iload 4, 2) := by decide +kernel
theorem dL_law_1361 : decode code 1361 = .ok (.iconst 4, 1) := by decide +kernel
theorem dL_law_1362 : decode code 1362 = .ok (.iadd, 1) := by decide +kernel
theorem dL_law_1363 : decode code 1363 = .ok (.iaload, 1) := by decide +kernel
theorem dL_law_1364 : decode code 1364 = .ok (.invokevirtual 149, 3) := by decide +kernel
theorem dL_law_1367 : decode code 1367 = .ok (.aload_n 2, 1) := by decide +kernel
theorem dL_law_1368 : decode code 1368 = .ok (.aload_n 0, 1) := by decide +kernel
theorem dL_law_1369 : decode code 1369 = .ok (.iload 4, 2) := by decide +kernel
theorem dL_law_1371 : decode code 1371 = .ok (.iconst 1, 1) := by decide +kernel
theorem dL_law_1372 : decode code 1372 = .ok (.iadd, 1) := by decide +kernel
theorem dL_law_1373 : decode code 1373 = .ok (.iaload, 1) := by decide +kernel
theorem dL_law_1374 : decode code 1374 = .ok (.aload_n 0, 1) := by decide +kernel
theorem dL_law_1375 : decode code 1375 = .ok (.iload 4, 2) := by decide +kernel
theorem dL_law_1377 : decode code 1377 = .ok (.iconst 2, 1) := by decide +kernel
theorem dL_law_1378 : decode code 1378 = .ok (.iadd, 1) := by decide +kernel
theorem dL_law_1379 : decode code 1379 = .ok (.iaload, 1) := by decide +kernel
theorem dL_law_1380 : decode code 1380 = .ok (.aload_n 0, 1) := by decide +kernel
theorem dL_law_1381 : decode code 1381 = .ok (.iload 4, 2) := by decide +kernel
theorem dL_law_1383 : decode code 1383 = .ok (.iconst 3, 1) := by decide +kernel
theorem dL_law_1384 : decode code 1384 = .ok (.iadd, 1) := by decide +kernel
theorem dL_law_1385 : decode code 1385 = .ok (.iaload, 1) := by decide +kernel
theorem dL_law_1386 : decode code 1386 = .ok (.aload_n 0, 1) := by decide +kernel
theorem dL_law_1387 : decode code 1387 = .ok (.iload 4, 2) := by decide +kernel
theorem dL_law_1389 : decode code 1389 = .ok (.iconst 4, 1) := by decide +kernel
theorem dL_law_1390 : decode code 1390 = .ok (.iadd, 1) := by decide +kernel
theorem dL_law_1391 : decode code 1391 = .ok (.iaload, 1) := by decide +kernel
theorem dL_law_1392 : decode code 1392 = .ok (.invokevirtual 153, 3) := by decide +kernel
theorem dL_law_1395 : decode code 1395 = .ok (.lcmp, 1) := by decide +kernel
theorem dL_law_1396 : decode code 1396 = .ok (.ifCond .eq 542, 3) := by decide +kernel
theorem hv_L_149 : a_okV RL M_X3_snow 149 := ⟨a_in 624 (by decide +kernel) rfl, a_in 625 (by decide +kernel) rfl, a_in 626 (by decide +kernel) rfl⟩
theorem hv_L_153 : a_okV RL M_X4_snow 153 := ⟨a_in 1359 (by decide +kernel) rfl, a_in 1360 (by decide +kernel) rfl, a_in 1361 (by decide +kernel) rfl⟩
theorem lc_snow {K : lK} (h : K.Ok) {t u : Nat} (hf : t ≤ 601024 ∧ u ≤ 7293034) {w : aW} {X : aX} {Y : aY} (hI : Inv X Y) {a : Int32} (hin : ∀ v : Int32, v = 1 ∨ v = 2 ∨ v = 3 ∨ v = 4 ∨ v = 5 → vp_in (a + v) K.n) (next : ∀ (X' : aX) (Y' : aY), Inv X' Y' → Lw K t u 1938 (lL a) [] (Wd w X' Y')) : Lw K t u 1339 (lL a) [] (Wd w X Y) := by
  obtain ⟨r, w1, X', Y', hO, h3, h4, hI'⟩ := st_snow hI w (K.xs (a + 1).toNatClampNeg) (K.xs (a + 2).toNatClampNeg) (K.xs (a + 3).toNatClampNeg) (K.xs (a + 4).toNatClampNeg)
  refine l_aload h dL_law_1339 rfl rfl ?_
  refine l_arg h dL_law_1340 dL_law_1341 dL_law_1343 dL_law_1344 dL_law_1345 kc_1 rfl rfl (hin 1 (by decide)) ?_
  refine l_arg h dL_law_1346 dL_law_1347 dL_law_1349 dL_law_1350 dL_law_1351 kc_2 rfl rfl (hin 2 (by decide)) ?_
  refine l_arg h dL_law_1352 dL_law_1353 dL_law_1355 dL_law_1356 dL_law_1357 kc_3 rfl rfl (hin 3 (by decide)) ?_
  refine l_arg h dL_law_1358 dL_law_1359 dL_law_1361 dL_law_1362 dL_law_1363 kc_4 rfl rfl (hin 4 (by decide)) ?_
  refine l_call (rv' := rvL) (c0 := 2) (S := []) h hf rfl rfl ok_X3_snow ⟨Nat.le_of_ble_eq_true rfl, Nat.le_of_ble_eq_true rfl⟩ hv_L_149 dL_law_1364 (l_obj w X Y) (s_X3_snow 0 _ _ _ _ _) h3 rfl rfl (Nat.le_of_ble_eq_true rfl) ?_
  refine l_aload h dL_law_1367 rfl rfl ?_
  refine l_arg h dL_law_1368 dL_law_1369 dL_law_1371 dL_law_1372 dL_law_1373 kc_1 rfl rfl (hin 1 (by decide)) ?_
  refine l_arg h dL_law_1374 dL_law_1375 dL_law_1377 dL_law_1378 dL_law_1379 kc_2 rfl rfl (hin 2 (by decide)) ?_
  refine l_arg h dL_law_1380 dL_law_1381 dL_law_1383 dL_law_1384 dL_law_1385 kc_3 rfl rfl (hin 3 (by decide)) ?_
  refine l_arg h dL_law_1386 dL_law_1387 dL_law_1389 dL_law_1390 dL_law_1391 kc_4 rfl rfl (hin 4 (by decide)) ?_
  refine l_call (rv' := rvL) (c0 := 3) (S := [.long r]) h hf rfl rfl ok_X4_snow ⟨Nat.le_of_ble_eq_true rfl, Nat.le_of_ble_eq_true rfl⟩ hv_L_153 dL_law_1392 hO (s_X4_snow 50 _ _ _ _ _) h4 rfl rfl (Nat.le_of_ble_eq_true rfl) ?_
  exact l_leq h dL_law_1395 dL_law_1396 (by decide) (next X' Y' hI')
theorem dL_law_1401 : decode code 1401 = .ok (.aload_n 1, 1) := by decide +kernel
theorem dL_law_1402 : decode code 1402 = .ok (.aload_n 0, 1) := by decide +kernel
theorem dL_law_1403 : decode code 1403 = .ok (.iload 4, 2) := by decide +kernel
theorem dL_law_1405 : decode code 1405 = .ok (.iconst 1, 1) := by decide +kernel
theorem dL_law_1406 : decode code 1406 = .ok (.iadd, 1) := by decide +kernel
theorem dL_law_1407 : decode code 1407 = .ok (.iaload, 1) := by decide +kernel
theorem dL_law_1408 : decode code 1408 = .ok (.aload_n 0, 1) := by decide +kernel
theorem dL_law_1409 : decode code 1409 = .ok (.iload 4, 2) := by decide +kernel
theorem dL_law_1411 : decode code 1411 = .ok (.iconst 2, 1) := by decide +kernel
theorem dL_law_1412 : decode code 1412 = .ok (.iadd, 1) := by decide +kernel
theorem dL_law_1413 : decode code 1413 = .ok (.iaload, 1) := by decide +kernel
theorem dL_law_1414 : decode code 1414 = .ok (.invokevirtual 154, 3) := by decide +kernel
theorem dL_law_1417 : decode code 1417 = .ok (.aload_n 2, 1) := by decide +kernel
theorem dL_law_1418 : decode code 1418 = .ok (.aload_n 0, 1) := by decide +kernel
theorem dL_law_1419 : decode code 1419 = .ok (.iload 4, 2) := by decide +kernel
theorem dL_law_1421 : decode code 1421 = .ok (.iconst 1, 1) := by decide +kernel
theorem dL_law_1422 : decode code 1422 = .ok (.iadd, 1) := by decide +kernel
theorem dL_law_1423 : decode code 1423 = .ok (.iaload, 1) := by decide +kernel
theorem dL_law_1424 : decode code 1424 = .ok (.aload_n 0, 1) := by decide +kernel
theorem dL_law_1425 : decode code 1425 = .ok (.iload 4, 2) := by decide +kernel
theorem dL_law_1427 : decode code 1427 = .ok (.iconst 2, 1) := by decide +kernel
theorem dL_law_1428 : decode code 1428 = .ok (.iadd, 1) := by decide +kernel
theorem dL_law_1429 : decode code 1429 = .ok (.iaload, 1) := by decide +kernel
theorem dL_law_1430 : decode code 1430 = .ok (.invokevirtual 157, 3) := by decide +kernel
theorem dL_law_1433 : decode code 1433 = .ok (.lcmp, 1) := by decide +kernel
theorem dL_law_1434 : decode code 1434 = .ok (.ifCond .eq 504, 3) := by decide +kernel
theorem hv_L_154 : a_okV RL M_X3_share 154 := ⟨a_in 642 (by decide +kernel) rfl, a_in 643 (by decide +kernel) rfl, a_in 644 (by decide +kernel) rfl⟩
theorem hv_L_157 : a_okV RL M_X4_share 157 := ⟨a_in 1370 (by decide +kernel) rfl, a_in 1371 (by decide +kernel) rfl, a_in 1372 (by decide +kernel) rfl⟩
theorem lc_share {K : lK} (h : K.Ok) {t u : Nat} (hf : t ≤ 601024 ∧ u ≤ 7293034) {w : aW} {X : aX} {Y : aY} (hI : Inv X Y) {a : Int32} (hin : ∀ v : Int32, v = 1 ∨ v = 2 ∨ v = 3 ∨ v = 4 ∨ v = 5 → vp_in (a + v) K.n) (next : ∀ (X' : aX) (Y' : aY), Inv X' Y' → Lw K t u 1938 (lL a) [] (Wd w X' Y')) : Lw K t u 1401 (lL a) [] (Wd w X Y) := by
  obtain ⟨r, w1, X', Y', hO, h3, h4, hI'⟩ := st_share hI w (K.xs (a + 1).toNatClampNeg) (K.xs (a + 2).toNatClampNeg)
  refine l_aload h dL_law_1401 rfl rfl ?_
  refine l_arg h dL_law_1402 dL_law_1403 dL_law_1405 dL_law_1406 dL_law_1407 kc_1 rfl rfl (hin 1 (by decide)) ?_
  refine l_arg h dL_law_1408 dL_law_1409 dL_law_1411 dL_law_1412 dL_law_1413 kc_2 rfl rfl (hin 2 (by decide)) ?_
  refine l_call (rv' := rvL) (c0 := 2) (S := []) h hf rfl rfl ok_X3_share ⟨Nat.le_of_ble_eq_true rfl, Nat.le_of_ble_eq_true rfl⟩ hv_L_154 dL_law_1414 (l_obj w X Y) (s_X3_share 0 _ _ _) h3 rfl rfl (Nat.le_of_ble_eq_true rfl) ?_
  refine l_aload h dL_law_1417 rfl rfl ?_
  refine l_arg h dL_law_1418 dL_law_1419 dL_law_1421 dL_law_1422 dL_law_1423 kc_1 rfl rfl (hin 1 (by decide)) ?_
  refine l_arg h dL_law_1424 dL_law_1425 dL_law_1427 dL_law_1428 dL_law_1429 kc_2 rfl rfl (hin 2 (by decide)) ?_
  refine l_call (rv' := rvL) (c0 := 3) (S := [.long r]) h hf rfl rfl ok_X4_share ⟨Nat.le_of_ble_eq_true rfl, Nat.le_of_ble_eq_true rfl⟩ hv_L_157 dL_law_1430 hO (s_X4_share 50 _ _ _) h4 rfl rfl (Nat.le_of_ble_eq_true rfl) ?_
  exact l_leq h dL_law_1433 dL_law_1434 (by decide) (next X' Y' hI')
theorem dL_law_1439 : decode code 1439 = .ok (.aload_n 1, 1) := by decide +kernel
theorem dL_law_1440 : decode code 1440 = .ok (.aload_n 0, 1) := by decide +kernel
theorem dL_law_1441 : decode code 1441 = .ok (.iload 4, 2) := by decide +kernel
theorem dL_law_1443 : decode code 1443 = .ok (.iconst 1, 1) := by decide +kernel
theorem dL_law_1444 : decode code 1444 = .ok (.iadd, 1) := by decide +kernel
theorem dL_law_1445 : decode code 1445 = .ok (.iaload, 1) := by decide +kernel
theorem dL_law_1446 : decode code 1446 = .ok (.invokevirtual 158, 3) := by decide +kernel
theorem dL_law_1449 : decode code 1449 = .ok (.aload_n 2, 1) := by decide +kernel
theorem dL_law_1450 : decode code 1450 = .ok (.aload_n 0, 1) := by decide +kernel
theorem dL_law_1451 : decode code 1451 = .ok (.iload 4, 2) := by decide +kernel
theorem dL_law_1453 : decode code 1453 = .ok (.iconst 1, 1) := by decide +kernel
theorem dL_law_1454 : decode code 1454 = .ok (.iadd, 1) := by decide +kernel
theorem dL_law_1455 : decode code 1455 = .ok (.iaload, 1) := by decide +kernel
theorem dL_law_1456 : decode code 1456 = .ok (.invokevirtual 161, 3) := by decide +kernel
theorem dL_law_1459 : decode code 1459 = .ok (.if_icmp .eq 479, 3) := by decide +kernel
theorem hv_L_158 : a_okV RL M_X3_forged 158 := ⟨a_in 650 (by decide +kernel) rfl, a_in 651 (by decide +kernel) rfl, a_in 652 (by decide +kernel) rfl⟩
theorem hv_L_161 : a_okV RL M_X4_forged 161 := ⟨a_in 1378 (by decide +kernel) rfl, a_in 1379 (by decide +kernel) rfl, a_in 1380 (by decide +kernel) rfl⟩
theorem lc_forged {K : lK} (h : K.Ok) {t u : Nat} (hf : t ≤ 601024 ∧ u ≤ 7293034) {w : aW} {X : aX} {Y : aY} (hI : Inv X Y) {a : Int32} (hin : ∀ v : Int32, v = 1 ∨ v = 2 ∨ v = 3 ∨ v = 4 ∨ v = 5 → vp_in (a + v) K.n) (next : ∀ (X' : aX) (Y' : aY), Inv X' Y' → Lw K t u 1938 (lL a) [] (Wd w X' Y')) : Lw K t u 1439 (lL a) [] (Wd w X Y) := by
  obtain ⟨r, w1, X', Y', hO, h3, h4, hI'⟩ := st_forged hI w (K.xs (a + 1).toNatClampNeg)
  refine l_aload h dL_law_1439 rfl rfl ?_
  refine l_arg h dL_law_1440 dL_law_1441 dL_law_1443 dL_law_1444 dL_law_1445 kc_1 rfl rfl (hin 1 (by decide)) ?_
  refine l_call (rv' := rvI) (c0 := 2) (S := []) h hf rfl rfl ok_X3_forged ⟨Nat.le_of_ble_eq_true rfl, Nat.le_of_ble_eq_true rfl⟩ hv_L_158 dL_law_1446 (l_obj w X Y) (s_X3_forged 0 _ _) h3 rfl rfl (Nat.le_of_ble_eq_true rfl) ?_
  refine l_aload h dL_law_1449 rfl rfl ?_
  refine l_arg h dL_law_1450 dL_law_1451 dL_law_1453 dL_law_1454 dL_law_1455 kc_1 rfl rfl (hin 1 (by decide)) ?_
  refine l_call (rv' := rvI) (c0 := 3) (S := [.int r]) h hf rfl rfl ok_X4_forged ⟨Nat.le_of_ble_eq_true rfl, Nat.le_of_ble_eq_true rfl⟩ hv_L_161 dL_law_1456 hO (s_X4_forged 50 _ _) h4 rfl rfl (Nat.le_of_ble_eq_true rfl) ?_
  exact l_eq h dL_law_1459 (by decide) (next X' Y' hI')
theorem dL_law_1464 : decode code 1464 = .ok (.aload_n 1, 1) := by decide +kernel
theorem dL_law_1465 : decode code 1465 = .ok (.aload_n 0, 1) := by decide +kernel
theorem dL_law_1466 : decode code 1466 = .ok (.iload 4, 2) := by decide +kernel
theorem dL_law_1468 : decode code 1468 = .ok (.iconst 1, 1) := by decide +kernel
theorem dL_law_1469 : decode code 1469 = .ok (.iadd, 1) := by decide +kernel
theorem dL_law_1470 : decode code 1470 = .ok (.iaload, 1) := by decide +kernel
theorem dL_law_1471 : decode code 1471 = .ok (.invokevirtual 162, 3) := by decide +kernel
theorem dL_law_1474 : decode code 1474 = .ok (.aload_n 2, 1) := by decide +kernel
theorem dL_law_1475 : decode code 1475 = .ok (.aload_n 0, 1) := by decide +kernel
theorem dL_law_1476 : decode code 1476 = .ok (.iload 4, 2) := by decide +kernel
theorem dL_law_1478 : decode code 1478 = .ok (.iconst 1, 1) := by decide +kernel
theorem dL_law_1479 : decode code 1479 = .ok (.iadd, 1) := by decide +kernel
theorem dL_law_1480 : decode code 1480 = .ok (.iaload, 1) := by decide +kernel
theorem dL_law_1481 : decode code 1481 = .ok (.invokevirtual 165, 3) := by decide +kernel
theorem dL_law_1484 : decode code 1484 = .ok (.if_icmp .eq 454, 3) := by decide +kernel
theorem hv_L_162 : a_okV RL M_X3_judge 162 := ⟨a_in 654 (by decide +kernel) rfl, a_in 655 (by decide +kernel) rfl, a_in 656 (by decide +kernel) rfl⟩
theorem hv_L_165 : a_okV RL M_X4_judge 165 := ⟨a_in 1382 (by decide +kernel) rfl, a_in 1383 (by decide +kernel) rfl, a_in 1384 (by decide +kernel) rfl⟩
theorem lc_judge {K : lK} (h : K.Ok) {t u : Nat} (hf : t ≤ 601024 ∧ u ≤ 7293034) {w : aW} {X : aX} {Y : aY} (hI : Inv X Y) {a : Int32} (hin : ∀ v : Int32, v = 1 ∨ v = 2 ∨ v = 3 ∨ v = 4 ∨ v = 5 → vp_in (a + v) K.n) (next : ∀ (X' : aX) (Y' : aY), Inv X' Y' → Lw K t u 1938 (lL a) [] (Wd w X' Y')) : Lw K t u 1464 (lL a) [] (Wd w X Y) := by
  obtain ⟨r, w1, X', Y', hO, h3, h4, hI'⟩ := st_judge hI w (K.xs (a + 1).toNatClampNeg)
  refine l_aload h dL_law_1464 rfl rfl ?_
  refine l_arg h dL_law_1465 dL_law_1466 dL_law_1468 dL_law_1469 dL_law_1470 kc_1 rfl rfl (hin 1 (by decide)) ?_
  refine l_call (rv' := rvI) (c0 := 2) (S := []) h hf rfl rfl ok_X3_judge ⟨Nat.le_of_ble_eq_true rfl, Nat.le_of_ble_eq_true rfl⟩ hv_L_162 dL_law_1471 (l_obj w X Y) (s_X3_judge 0 _ _) h3 rfl rfl (Nat.le_of_ble_eq_true rfl) ?_
  refine l_aload h dL_law_1474 rfl rfl ?_
  refine l_arg h dL_law_1475 dL_law_1476 dL_law_1478 dL_law_1479 dL_law_1480 kc_1 rfl rfl (hin 1 (by decide)) ?_
  refine l_call (rv' := rvI) (c0 := 3) (S := [.int r]) h hf rfl rfl ok_X4_judge ⟨Nat.le_of_ble_eq_true rfl, Nat.le_of_ble_eq_true rfl⟩ hv_L_165 dL_law_1481 hO (s_X4_judge 50 _ _) h4 rfl rfl (Nat.le_of_ble_eq_true rfl) ?_
  exact l_eq h dL_law_1484 (by decide) (next X' Y' hI')
