set_option maxHeartbeats 4000000 in
set_option maxRecDepth 100000 in
theorem lc_beat {γ : Gm} {φ : Fx} {b0 L : Nat} {xs : Nat → Int32} {A0 B0 : Nat} {Q : State → Prop} {j : Int} {τ : St} {w s a p u : Int} {t n x f d k i : Int → Int} (G : Glo γ) (N : GNc γ) (C : Cx γ φ RL cL_law 7 20) (E : LE γ φ b0 L xs) (hcr : A0 + 1 ≤ φ.2.2.1.cells ∧ B0 + 6 ≤ φ.2.2.1.slots) (hj : 0 ≤ j ∧ j + 6 ≤ L) (hI : LI τ w s a p u t n x f d k i)
    (K : ∀ (τ : St) (w s a p u : Int) (t n x f d k i : Int → Int), LI τ w s a p u t n x f d k i → Vw γ φ 7 (A0 + 1) (B0 + 6) Q τ 1932 [(4, .int (iI j)), (0, .ref b0), (1, .ref (bs γ + 0)), (2, .ref (bs γ + 255)), (3, .ref (bs γ + 263))] []) : Vw γ φ 7 A0 B0 Q τ 1323 [(4, .int (iI j)), (0, .ref b0), (1, .ref (bs γ + 0)), (2, .ref (bs γ + 255)), (3, .ref (bs γ + 263))] [] := by
  have hL := E.2.2.2
  obtain ⟨hM, hC, hO⟩ := hI
  have hW := hO.2.2.2.1
  refine v_aload_n (pc := 1323) C 2 rfl dL_law_1323 ?_
  refine v_aload_n (pc := 1324) C 1 rfl dL_law_1324 ?_
  refine v_iload (pc := 1325) C 0 rfl dL_law_1325 ?_
  refine v_iconst (pc := 1327) C dL_law_1327 ?_
  refine v_iadd (pc := 1328) C dL_law_1328 ?_
  refine v_sld (pc := 1329) C E (by omega) dL_law_1329 ?_
  refine v_aload_n (pc := 1330) C 4 rfl dL_law_1330 ?_
  refine v_csW (pc := 1331) (as := [.ref (bs γ + 0), .int (iI (XS xs (j + 1))), .ref (bs γ + 263)]) C (cy_L_beat G) (wM_L_176 G) (k_L_beat G N hC hO (XS_r _ _)) dL_law_1331 rfl rfl (by decide) (by decide) (Nat.le_of_ble_eq_true rfl) hcr (k_I (fun z1 σ1 q1 => ?_))
  obtain ⟨e1, h1o, hC1, hE1⟩ := q1
  refine v_st (mR_eq (hM.cong hE1)) ?_
  refine v_istore (pc := 1334) C [(5, .int (iI z1)), (4, .int (iI j)), (0, .ref b0), (1, .ref (bs γ + 0)), (2, .ref (bs γ + 255)), (3, .ref (bs γ + 263))] dL_law_1334 (by decide) rfl ?_
  refine v_aload_n (pc := 1336) C 4 rfl dL_law_1336 ?_
  refine v_aload_n (pc := 1337) C 2 rfl dL_law_1337 ?_
  refine v_iload (pc := 1338) C 1 rfl dL_law_1338 ?_
  refine v_iconst (pc := 1340) C dL_law_1340 ?_
  refine v_iadd (pc := 1341) C dL_law_1341 ?_
  refine v_sld (pc := 1342) C E (by omega) dL_law_1342 ?_
  refine v_cv (pc := 1343) (as := [.int (iI (XS xs (j + 1)))]) C (cy_X6_beat G) (wM_L_178 G) sh_255 (ci := 4) rfl rfl (k_X6_beat G (XS_r _ _) hW) dL_law_1343 rfl rfl (by decide) (by decide) (Nat.le_of_ble_eq_true rfl) ⟨by omega, by omega⟩ (k_I (fun z2 σ2 q2 => ?_))
  obtain ⟨⟨p2, u2, x2, f2, rfl⟩, e2⟩ := q2
  refine v_istore (pc := 1346) C [(6, .int (iI z2)), (5, .int (iI z1)), (4, .int (iI j)), (0, .ref b0), (1, .ref (bs γ + 0)), (2, .ref (bs γ + 255)), (3, .ref (bs γ + 263))] dL_law_1346 (by decide) rfl ?_
  refine v_aload_n (pc := 1348) C 5 rfl dL_law_1348 ?_
  refine v_cv (pc := 1349) (as := []) C (cy_X6_thrown G) (wM_L_108 G) sh_255 (ci := 4) rfl rfl (k_X6_thrown G) dL_law_1349 rfl rfl (by decide) (by decide) (Nat.le_of_ble_eq_true rfl) ⟨by omega, by omega⟩ (k_I (fun z3 σ3 q3 => ?_))
  obtain ⟨e3, rfl⟩ := q3
  refine v_iload (pc := 1352) C 1 rfl dL_law_1352 ?_
  refine v_icmp_eqT (pc := 1354) C 1359 dL_law_1354 (by decide) ((e3.trans (mA_w _ _ _ _ _ _ _)).trans e1.symm) ?_
  refine v_iload (pc := 1359) C 1 rfl dL_law_1359 ?_
  have hcd := cd_beat s a t n d k i (XS xs (j + 1))
  refine v_if_ne (pc := 1361) C 1376 (by omega) dL_law_1361 (by decide) (fun h0 => ?_) (fun h0 => ?_)
  · refine v_goto (pc := 1376) C 1932 dL_law_1376 (by decide) ?_
    exact v_lv _ [2, 3, 4, 5, 6] rfl (K _ _ _ _ _ _ _ _ _ _ _ _ _ (LI_next hC1 (ok_beat hO (XS xs (j + 1)))))
  · refine v_aload_n (pc := 1364) C 6 rfl dL_law_1364 ?_
    refine v_iconst (pc := 1365) C dL_law_1365 ?_
    refine v_lald (pc := 1366) C sh_263 (by decide) (by decide) dL_law_1366 (fun z9 e9 r9 => ?_)
    have h9 : z9 = bmz z2 := by rw [e9, mA_out, e2 (by omega)]; exact h1o (by omega)
    refine v_iload (pc := 1367) C 0 rfl dL_law_1367 ?_
    refine v_bm ?_
    refine v_i2l (pc := 1369) C (bmz_r _) dL_law_1369 ?_
    refine v_lcmp (pc := 1370) C (by omega) (by have := bmz_r z2; omega) dL_law_1370 ?_
    refine v_ti (x2 := 0) (by rw [if_neg (by omega), if_pos h9]) ?_
    refine v_if_eq (pc := 1371) C 1376 (by first | omega | assumption) dL_law_1371 (by decide) (fun _ => ?_) (fun h => absurd h (by decide))
    refine v_goto (pc := 1376) C 1932 dL_law_1376 (by decide) ?_
    exact v_lv _ [2, 3, 4, 5, 6] rfl (K _ _ _ _ _ _ _ _ _ _ _ _ _ (LI_next hC1 (ok_beat hO (XS xs (j + 1)))))

set_option maxHeartbeats 4000000 in
set_option maxRecDepth 100000 in
theorem lc_rule {γ : Gm} {φ : Fx} {b0 L : Nat} {xs : Nat → Int32} {A0 B0 : Nat} {Q : State → Prop} {j : Int} {τ : St} {w s a p u : Int} {t n x f d k i : Int → Int} (G : Glo γ) (N : GNc γ) (C : Cx γ φ RL cL_law 7 20) (E : LE γ φ b0 L xs) (hcr : A0 + 1 ≤ φ.2.2.1.cells ∧ B0 + 6 ≤ φ.2.2.1.slots) (hj : 0 ≤ j ∧ j + 6 ≤ L) (hI : LI τ w s a p u t n x f d k i)
    (K : ∀ (τ : St) (w s a p u : Int) (t n x f d k i : Int → Int), LI τ w s a p u t n x f d k i → Vw γ φ 7 (A0 + 1) (B0 + 6) Q τ 1932 [(4, .int (iI j)), (0, .ref b0), (1, .ref (bs γ + 0)), (2, .ref (bs γ + 255)), (3, .ref (bs γ + 263))] []) : Vw γ φ 7 A0 B0 Q τ 1379 [(4, .int (iI j)), (0, .ref b0), (1, .ref (bs γ + 0)), (2, .ref (bs γ + 255)), (3, .ref (bs γ + 263))] [] := by
  have hL := E.2.2.2
  obtain ⟨hM, hC, hO⟩ := hI
  have hW := hO.2.2.2.1
  refine v_aload_n (pc := 1379) C 2 rfl dL_law_1379 ?_
  refine v_aload_n (pc := 1380) C 1 rfl dL_law_1380 ?_
  refine v_iload (pc := 1381) C 0 rfl dL_law_1381 ?_
  refine v_iconst (pc := 1383) C dL_law_1383 ?_
  refine v_iadd (pc := 1384) C dL_law_1384 ?_
  refine v_sld (pc := 1385) C E (by omega) dL_law_1385 ?_
  refine v_aload_n (pc := 1386) C 1 rfl dL_law_1386 ?_
  refine v_iload (pc := 1387) C 0 rfl dL_law_1387 ?_
  refine v_iconst (pc := 1389) C dL_law_1389 ?_
  refine v_iadd (pc := 1390) C dL_law_1390 ?_
  refine v_sld (pc := 1391) C E (by omega) dL_law_1391 ?_
  refine v_aload_n (pc := 1392) C 1 rfl dL_law_1392 ?_
  refine v_iload (pc := 1393) C 0 rfl dL_law_1393 ?_
  refine v_iconst (pc := 1395) C dL_law_1395 ?_
  refine v_iadd (pc := 1396) C dL_law_1396 ?_
  refine v_sld (pc := 1397) C E (by omega) dL_law_1397 ?_
  refine v_aload_n (pc := 1398) C 4 rfl dL_law_1398 ?_
  refine v_csW (pc := 1399) (as := [.ref (bs γ + 0), .int (iI (XS xs (j + 1))), .int (iI (XS xs (j + 2))), .int (iI (XS xs (j + 3))), .ref (bs γ + 263)]) C (cy_L_rule G) (wM_L_179 G) (k_L_rule G N hC hO (XS_r _ _) (XS_r _ _) (XS_r _ _)) dL_law_1399 rfl rfl (by decide) (by decide) (Nat.le_of_ble_eq_true rfl) hcr (k_I (fun z1 σ1 q1 => ?_))
  obtain ⟨e1, h1o, hC1, hE1⟩ := q1
  refine v_st (mR_eq (hM.cong hE1)) ?_
  refine v_istore (pc := 1402) C [(5, .int (iI z1)), (4, .int (iI j)), (0, .ref b0), (1, .ref (bs γ + 0)), (2, .ref (bs γ + 255)), (3, .ref (bs γ + 263))] dL_law_1402 (by decide) rfl ?_
  refine v_aload_n (pc := 1404) C 4 rfl dL_law_1404 ?_
  refine v_aload_n (pc := 1405) C 2 rfl dL_law_1405 ?_
  refine v_iload (pc := 1406) C 1 rfl dL_law_1406 ?_
  refine v_iconst (pc := 1408) C dL_law_1408 ?_
  refine v_iadd (pc := 1409) C dL_law_1409 ?_
  refine v_sld (pc := 1410) C E (by omega) dL_law_1410 ?_
  refine v_aload_n (pc := 1411) C 2 rfl dL_law_1411 ?_
  refine v_iload (pc := 1412) C 1 rfl dL_law_1412 ?_
  refine v_iconst (pc := 1414) C dL_law_1414 ?_
  refine v_iadd (pc := 1415) C dL_law_1415 ?_
  refine v_sld (pc := 1416) C E (by omega) dL_law_1416 ?_
  refine v_aload_n (pc := 1417) C 2 rfl dL_law_1417 ?_
  refine v_iload (pc := 1418) C 1 rfl dL_law_1418 ?_
  refine v_iconst (pc := 1420) C dL_law_1420 ?_
  refine v_iadd (pc := 1421) C dL_law_1421 ?_
  refine v_sld (pc := 1422) C E (by omega) dL_law_1422 ?_
  refine v_cv (pc := 1423) (as := [.int (iI (XS xs (j + 1))), .int (iI (XS xs (j + 2))), .int (iI (XS xs (j + 3)))]) C (cy_X6_rule G) (wM_L_181 G) sh_255 (ci := 4) rfl rfl (k_X6_rule G (XS_r _ _) (XS_r _ _) (XS_r _ _) hW) dL_law_1423 rfl rfl (by decide) (by decide) (Nat.le_of_ble_eq_true rfl) ⟨by omega, by omega⟩ (k_I (fun z2 σ2 q2 => ?_))
  obtain ⟨⟨p2, u2, x2, f2, rfl⟩, e2⟩ := q2
  refine v_istore (pc := 1426) C [(6, .int (iI z2)), (5, .int (iI z1)), (4, .int (iI j)), (0, .ref b0), (1, .ref (bs γ + 0)), (2, .ref (bs γ + 255)), (3, .ref (bs γ + 263))] dL_law_1426 (by decide) rfl ?_
  refine v_aload_n (pc := 1428) C 5 rfl dL_law_1428 ?_
  refine v_cv (pc := 1429) (as := []) C (cy_X6_thrown G) (wM_L_108 G) sh_255 (ci := 4) rfl rfl (k_X6_thrown G) dL_law_1429 rfl rfl (by decide) (by decide) (Nat.le_of_ble_eq_true rfl) ⟨by omega, by omega⟩ (k_I (fun z3 σ3 q3 => ?_))
  obtain ⟨e3, rfl⟩ := q3
  refine v_iload (pc := 1432) C 1 rfl dL_law_1432 ?_
  refine v_icmp_eqT (pc := 1434) C 1439 dL_law_1434 (by decide) ((e3.trans (mA_w _ _ _ _ _ _ _)).trans e1.symm) ?_
  refine v_iload (pc := 1439) C 1 rfl dL_law_1439 ?_
  have hcd := cd_rule s a t n d k i (XS xs (j + 1)) (XS xs (j + 2)) (XS xs (j + 3))
  refine v_if_ne (pc := 1441) C 1456 (by omega) dL_law_1441 (by decide) (fun h0 => ?_) (fun h0 => ?_)
  · refine v_goto (pc := 1456) C 1932 dL_law_1456 (by decide) ?_
    exact v_lv _ [2, 3, 4, 5, 6] rfl (K _ _ _ _ _ _ _ _ _ _ _ _ _ (LI_next hC1 (ok_rule hO (XS xs (j + 1)) (XS xs (j + 2)) (XS xs (j + 3)))))
  · refine v_aload_n (pc := 1444) C 6 rfl dL_law_1444 ?_
    refine v_iconst (pc := 1445) C dL_law_1445 ?_
    refine v_lald (pc := 1446) C sh_263 (by decide) (by decide) dL_law_1446 (fun z9 e9 r9 => ?_)
    have h9 : z9 = bmz z2 := by rw [e9, mA_out, e2 (by omega)]; exact h1o (by omega)
    refine v_iload (pc := 1447) C 0 rfl dL_law_1447 ?_
    refine v_bm ?_
    refine v_i2l (pc := 1449) C (bmz_r _) dL_law_1449 ?_
    refine v_lcmp (pc := 1450) C (by omega) (by have := bmz_r z2; omega) dL_law_1450 ?_
    refine v_ti (x2 := 0) (by rw [if_neg (by omega), if_pos h9]) ?_
    refine v_if_eq (pc := 1451) C 1456 (by first | omega | assumption) dL_law_1451 (by decide) (fun _ => ?_) (fun h => absurd h (by decide))
    refine v_goto (pc := 1456) C 1932 dL_law_1456 (by decide) ?_
    exact v_lv _ [2, 3, 4, 5, 6] rfl (K _ _ _ _ _ _ _ _ _ _ _ _ _ (LI_next hC1 (ok_rule hO (XS xs (j + 1)) (XS xs (j + 2)) (XS xs (j + 3)))))

set_option maxHeartbeats 4000000 in
set_option maxRecDepth 100000 in
theorem lc_ifLeak {γ : Gm} {φ : Fx} {b0 L : Nat} {xs : Nat → Int32} {A0 B0 : Nat} {Q : State → Prop} {j : Int} {τ : St} {w s a p u : Int} {t n x f d k i : Int → Int} (G : Glo γ) (N : GNc γ) (C : Cx γ φ RL cL_law 7 20) (E : LE γ φ b0 L xs) (hcr : A0 + 1 ≤ φ.2.2.1.cells ∧ B0 + 6 ≤ φ.2.2.1.slots) (hj : 0 ≤ j ∧ j + 6 ≤ L) (hI : LI τ w s a p u t n x f d k i)
    (K : ∀ (τ : St) (w s a p u : Int) (t n x f d k i : Int → Int), LI τ w s a p u t n x f d k i → Vw γ φ 7 (A0 + 1) (B0 + 6) Q τ 1932 [(4, .int (iI j)), (0, .ref b0), (1, .ref (bs γ + 0)), (2, .ref (bs γ + 255)), (3, .ref (bs γ + 263))] []) : Vw γ φ 7 A0 B0 Q τ 1459 [(4, .int (iI j)), (0, .ref b0), (1, .ref (bs γ + 0)), (2, .ref (bs γ + 255)), (3, .ref (bs γ + 263))] [] := by
  have hL := E.2.2.2
  obtain ⟨hM, hC, hO⟩ := hI
  have hW := hO.2.2.2.1
  refine v_aload_n (pc := 1459) C 2 rfl dL_law_1459 ?_
  refine v_aload_n (pc := 1460) C 1 rfl dL_law_1460 ?_
  refine v_iload (pc := 1461) C 0 rfl dL_law_1461 ?_
  refine v_iconst (pc := 1463) C dL_law_1463 ?_
  refine v_iadd (pc := 1464) C dL_law_1464 ?_
  refine v_sld (pc := 1465) C E (by omega) dL_law_1465 ?_
  refine v_aload_n (pc := 1466) C 1 rfl dL_law_1466 ?_
  refine v_iload (pc := 1467) C 0 rfl dL_law_1467 ?_
  refine v_iconst (pc := 1469) C dL_law_1469 ?_
  refine v_iadd (pc := 1470) C dL_law_1470 ?_
  refine v_sld (pc := 1471) C E (by omega) dL_law_1471 ?_
  refine v_aload_n (pc := 1472) C 1 rfl dL_law_1472 ?_
  refine v_iload (pc := 1473) C 0 rfl dL_law_1473 ?_
  refine v_iconst (pc := 1475) C dL_law_1475 ?_
  refine v_iadd (pc := 1476) C dL_law_1476 ?_
  refine v_sld (pc := 1477) C E (by omega) dL_law_1477 ?_
  refine v_aload_n (pc := 1478) C 4 rfl dL_law_1478 ?_
  refine v_csW (pc := 1479) (as := [.ref (bs γ + 0), .int (iI (XS xs (j + 1))), .int (iI (XS xs (j + 2))), .int (iI (XS xs (j + 3))), .ref (bs γ + 263)]) C (cy_L_ifLeak G) (wM_L_182 G) (k_L_ifLeak G N hC hO (XS_r _ _) (XS_r _ _) (XS_r _ _)) dL_law_1479 rfl rfl (by decide) (by decide) (Nat.le_of_ble_eq_true rfl) hcr (k_I (fun z1 σ1 q1 => ?_))
  obtain ⟨e1, h1o, hC1, hE1⟩ := q1
  refine v_st (mR_eq (hM.cong hE1)) ?_
  refine v_istore (pc := 1482) C [(5, .int (iI z1)), (4, .int (iI j)), (0, .ref b0), (1, .ref (bs γ + 0)), (2, .ref (bs γ + 255)), (3, .ref (bs γ + 263))] dL_law_1482 (by decide) rfl ?_
  refine v_aload_n (pc := 1484) C 4 rfl dL_law_1484 ?_
  refine v_aload_n (pc := 1485) C 2 rfl dL_law_1485 ?_
  refine v_iload (pc := 1486) C 1 rfl dL_law_1486 ?_
  refine v_iconst (pc := 1488) C dL_law_1488 ?_
  refine v_iadd (pc := 1489) C dL_law_1489 ?_
  refine v_sld (pc := 1490) C E (by omega) dL_law_1490 ?_
  refine v_aload_n (pc := 1491) C 2 rfl dL_law_1491 ?_
  refine v_iload (pc := 1492) C 1 rfl dL_law_1492 ?_
  refine v_iconst (pc := 1494) C dL_law_1494 ?_
  refine v_iadd (pc := 1495) C dL_law_1495 ?_
  refine v_sld (pc := 1496) C E (by omega) dL_law_1496 ?_
  refine v_aload_n (pc := 1497) C 2 rfl dL_law_1497 ?_
  refine v_iload (pc := 1498) C 1 rfl dL_law_1498 ?_
  refine v_iconst (pc := 1500) C dL_law_1500 ?_
  refine v_iadd (pc := 1501) C dL_law_1501 ?_
  refine v_sld (pc := 1502) C E (by omega) dL_law_1502 ?_
  refine v_cv (pc := 1503) (as := [.int (iI (XS xs (j + 1))), .int (iI (XS xs (j + 2))), .int (iI (XS xs (j + 3)))]) C (cy_X6_ifLeak G) (wM_L_184 G) sh_255 (ci := 4) rfl rfl (k_X6_ifLeak G (XS_r _ _) (XS_r _ _) (XS_r _ _) hW) dL_law_1503 rfl rfl (by decide) (by decide) (Nat.le_of_ble_eq_true rfl) ⟨by omega, by omega⟩ (k_I (fun z2 σ2 q2 => ?_))
  obtain ⟨⟨p2, u2, x2, f2, rfl⟩, e2⟩ := q2
  refine v_istore (pc := 1506) C [(6, .int (iI z2)), (5, .int (iI z1)), (4, .int (iI j)), (0, .ref b0), (1, .ref (bs γ + 0)), (2, .ref (bs γ + 255)), (3, .ref (bs γ + 263))] dL_law_1506 (by decide) rfl ?_
  refine v_aload_n (pc := 1508) C 5 rfl dL_law_1508 ?_
  refine v_cv (pc := 1509) (as := []) C (cy_X6_thrown G) (wM_L_108 G) sh_255 (ci := 4) rfl rfl (k_X6_thrown G) dL_law_1509 rfl rfl (by decide) (by decide) (Nat.le_of_ble_eq_true rfl) ⟨by omega, by omega⟩ (k_I (fun z3 σ3 q3 => ?_))
  obtain ⟨e3, rfl⟩ := q3
  refine v_iload (pc := 1512) C 1 rfl dL_law_1512 ?_
  refine v_icmp_eqT (pc := 1514) C 1519 dL_law_1514 (by decide) ((e3.trans (mA_w _ _ _ _ _ _ _)).trans e1.symm) ?_
  refine v_iload (pc := 1519) C 1 rfl dL_law_1519 ?_
  have hcd := cd_ifLeak s a t n d k i (XS xs (j + 1)) (XS xs (j + 2)) (XS xs (j + 3))
  refine v_if_ne (pc := 1521) C 1536 (by omega) dL_law_1521 (by decide) (fun h0 => ?_) (fun h0 => ?_)
  · refine v_goto (pc := 1536) C 1932 dL_law_1536 (by decide) ?_
    exact v_lv _ [2, 3, 4, 5, 6] rfl (K _ _ _ _ _ _ _ _ _ _ _ _ _ (LI_next hC1 (ok_ifLeak hO (XS xs (j + 1)) (XS xs (j + 2)) (XS xs (j + 3)))))
  · refine v_aload_n (pc := 1524) C 6 rfl dL_law_1524 ?_
    refine v_iconst (pc := 1525) C dL_law_1525 ?_
    refine v_lald (pc := 1526) C sh_263 (by decide) (by decide) dL_law_1526 (fun z9 e9 r9 => ?_)
    have h9 : z9 = bmz z2 := by rw [e9, mA_out, e2 (by omega)]; exact h1o (by omega)
    refine v_iload (pc := 1527) C 0 rfl dL_law_1527 ?_
    refine v_bm ?_
    refine v_i2l (pc := 1529) C (bmz_r _) dL_law_1529 ?_
    refine v_lcmp (pc := 1530) C (by omega) (by have := bmz_r z2; omega) dL_law_1530 ?_
    refine v_ti (x2 := 0) (by rw [if_neg (by omega), if_pos h9]) ?_
    refine v_if_eq (pc := 1531) C 1536 (by first | omega | assumption) dL_law_1531 (by decide) (fun _ => ?_) (fun h => absurd h (by decide))
    refine v_goto (pc := 1536) C 1932 dL_law_1536 (by decide) ?_
    exact v_lv _ [2, 3, 4, 5, 6] rfl (K _ _ _ _ _ _ _ _ _ _ _ _ _ (LI_next hC1 (ok_ifLeak hO (XS xs (j + 1)) (XS xs (j + 2)) (XS xs (j + 3)))))

set_option maxHeartbeats 4000000 in
set_option maxRecDepth 100000 in
theorem lc_suspect {γ : Gm} {φ : Fx} {b0 L : Nat} {xs : Nat → Int32} {A0 B0 : Nat} {Q : State → Prop} {j : Int} {τ : St} {w s a p u : Int} {t n x f d k i : Int → Int} (G : Glo γ) (N : GNc γ) (C : Cx γ φ RL cL_law 7 20) (E : LE γ φ b0 L xs) (hcr : A0 + 1 ≤ φ.2.2.1.cells ∧ B0 + 6 ≤ φ.2.2.1.slots) (hj : 0 ≤ j ∧ j + 6 ≤ L) (hI : LI τ w s a p u t n x f d k i)
    (K : ∀ (τ : St) (w s a p u : Int) (t n x f d k i : Int → Int), LI τ w s a p u t n x f d k i → Vw γ φ 7 (A0 + 1) (B0 + 6) Q τ 1932 [(4, .int (iI j)), (0, .ref b0), (1, .ref (bs γ + 0)), (2, .ref (bs γ + 255)), (3, .ref (bs γ + 263))] []) : Vw γ φ 7 A0 B0 Q τ 1539 [(4, .int (iI j)), (0, .ref b0), (1, .ref (bs γ + 0)), (2, .ref (bs γ + 255)), (3, .ref (bs γ + 263))] [] := by
  have hL := E.2.2.2
  obtain ⟨hM, hC, hO⟩ := hI
  have hW := hO.2.2.2.1
  refine v_aload_n (pc := 1539) C 2 rfl dL_law_1539 ?_
  refine v_aload_n (pc := 1540) C 1 rfl dL_law_1540 ?_
  refine v_iload (pc := 1541) C 0 rfl dL_law_1541 ?_
  refine v_iconst (pc := 1543) C dL_law_1543 ?_
  refine v_iadd (pc := 1544) C dL_law_1544 ?_
  refine v_sld (pc := 1545) C E (by omega) dL_law_1545 ?_
  refine v_aload_n (pc := 1546) C 1 rfl dL_law_1546 ?_
  refine v_iload (pc := 1547) C 0 rfl dL_law_1547 ?_
  refine v_iconst (pc := 1549) C dL_law_1549 ?_
  refine v_iadd (pc := 1550) C dL_law_1550 ?_
  refine v_sld (pc := 1551) C E (by omega) dL_law_1551 ?_
  refine v_aload_n (pc := 1552) C 4 rfl dL_law_1552 ?_
  refine v_csW (pc := 1553) (as := [.ref (bs γ + 0), .int (iI (XS xs (j + 1))), .int (iI (XS xs (j + 2))), .ref (bs γ + 263)]) C (cy_L_suspect G) (wM_L_185 G) (k_L_suspect G N hC hO (XS_r _ _) (XS_r _ _)) dL_law_1553 rfl rfl (by decide) (by decide) (Nat.le_of_ble_eq_true rfl) hcr (k_I (fun z1 σ1 q1 => ?_))
  obtain ⟨e1, h1o, hC1, hE1⟩ := q1
  refine v_st (mR_eq (hM.cong hE1)) ?_
  refine v_istore (pc := 1556) C [(5, .int (iI z1)), (4, .int (iI j)), (0, .ref b0), (1, .ref (bs γ + 0)), (2, .ref (bs γ + 255)), (3, .ref (bs γ + 263))] dL_law_1556 (by decide) rfl ?_
  refine v_aload_n (pc := 1558) C 4 rfl dL_law_1558 ?_
  refine v_aload_n (pc := 1559) C 2 rfl dL_law_1559 ?_
  refine v_iload (pc := 1560) C 1 rfl dL_law_1560 ?_
  refine v_iconst (pc := 1562) C dL_law_1562 ?_
  refine v_iadd (pc := 1563) C dL_law_1563 ?_
  refine v_sld (pc := 1564) C E (by omega) dL_law_1564 ?_
  refine v_aload_n (pc := 1565) C 2 rfl dL_law_1565 ?_
  refine v_iload (pc := 1566) C 1 rfl dL_law_1566 ?_
  refine v_iconst (pc := 1568) C dL_law_1568 ?_
  refine v_iadd (pc := 1569) C dL_law_1569 ?_
  refine v_sld (pc := 1570) C E (by omega) dL_law_1570 ?_
  refine v_cv (pc := 1571) (as := [.int (iI (XS xs (j + 1))), .int (iI (XS xs (j + 2)))]) C (cy_X6_suspect G) (wM_L_187 G) sh_255 (ci := 4) rfl rfl (k_X6_suspect G (XS_r _ _) (XS_r _ _) hW) dL_law_1571 rfl rfl (by decide) (by decide) (Nat.le_of_ble_eq_true rfl) ⟨by omega, by omega⟩ (k_I (fun z2 σ2 q2 => ?_))
  obtain ⟨⟨p2, u2, x2, f2, rfl⟩, e2⟩ := q2
  refine v_istore (pc := 1574) C [(6, .int (iI z2)), (5, .int (iI z1)), (4, .int (iI j)), (0, .ref b0), (1, .ref (bs γ + 0)), (2, .ref (bs γ + 255)), (3, .ref (bs γ + 263))] dL_law_1574 (by decide) rfl ?_
  refine v_aload_n (pc := 1576) C 5 rfl dL_law_1576 ?_
  refine v_cv (pc := 1577) (as := []) C (cy_X6_thrown G) (wM_L_108 G) sh_255 (ci := 4) rfl rfl (k_X6_thrown G) dL_law_1577 rfl rfl (by decide) (by decide) (Nat.le_of_ble_eq_true rfl) ⟨by omega, by omega⟩ (k_I (fun z3 σ3 q3 => ?_))
  obtain ⟨e3, rfl⟩ := q3
  refine v_iload (pc := 1580) C 1 rfl dL_law_1580 ?_
  refine v_icmp_eqT (pc := 1582) C 1587 dL_law_1582 (by decide) ((e3.trans (mA_w _ _ _ _ _ _ _)).trans e1.symm) ?_
  refine v_iload (pc := 1587) C 1 rfl dL_law_1587 ?_
  have hcd := cd_suspect s a t n d k i (XS xs (j + 1)) (XS xs (j + 2))
  refine v_if_ne (pc := 1589) C 1604 (by omega) dL_law_1589 (by decide) (fun h0 => ?_) (fun h0 => ?_)
  · refine v_goto (pc := 1604) C 1932 dL_law_1604 (by decide) ?_
    exact v_lv _ [2, 3, 4, 5, 6] rfl (K _ _ _ _ _ _ _ _ _ _ _ _ _ (LI_next hC1 (ok_suspect hO (XS xs (j + 1)) (XS xs (j + 2)))))
  · refine v_aload_n (pc := 1592) C 6 rfl dL_law_1592 ?_
    refine v_iconst (pc := 1593) C dL_law_1593 ?_
    refine v_lald (pc := 1594) C sh_263 (by decide) (by decide) dL_law_1594 (fun z9 e9 r9 => ?_)
    have h9 : z9 = bmz z2 := by rw [e9, mA_out, e2 (by omega)]; exact h1o (by omega)
    refine v_iload (pc := 1595) C 0 rfl dL_law_1595 ?_
    refine v_bm ?_
    refine v_i2l (pc := 1597) C (bmz_r _) dL_law_1597 ?_
    refine v_lcmp (pc := 1598) C (by omega) (by have := bmz_r z2; omega) dL_law_1598 ?_
    refine v_ti (x2 := 0) (by rw [if_neg (by omega), if_pos h9]) ?_
    refine v_if_eq (pc := 1599) C 1604 (by first | omega | assumption) dL_law_1599 (by decide) (fun _ => ?_) (fun h => absurd h (by decide))
    refine v_goto (pc := 1604) C 1932 dL_law_1604 (by decide) ?_
    exact v_lv _ [2, 3, 4, 5, 6] rfl (K _ _ _ _ _ _ _ _ _ _ _ _ _ (LI_next hC1 (ok_suspect hO (XS xs (j + 1)) (XS xs (j + 2)))))

set_option maxHeartbeats 4000000 in
set_option maxRecDepth 100000 in
theorem lc_tightest {γ : Gm} {φ : Fx} {b0 L : Nat} {xs : Nat → Int32} {A0 B0 : Nat} {Q : State → Prop} {j : Int} {τ : St} {w s a p u : Int} {t n x f d k i : Int → Int} (G : Glo γ) (N : GNc γ) (C : Cx γ φ RL cL_law 7 20) (E : LE γ φ b0 L xs) (hcr : A0 + 1 ≤ φ.2.2.1.cells ∧ B0 + 6 ≤ φ.2.2.1.slots) (hj : 0 ≤ j ∧ j + 6 ≤ L) (hI : LI τ w s a p u t n x f d k i)
    (K : ∀ (τ : St) (w s a p u : Int) (t n x f d k i : Int → Int), LI τ w s a p u t n x f d k i → Vw γ φ 7 (A0 + 1) (B0 + 6) Q τ 1932 [(4, .int (iI j)), (0, .ref b0), (1, .ref (bs γ + 0)), (2, .ref (bs γ + 255)), (3, .ref (bs γ + 263))] []) : Vw γ φ 7 A0 B0 Q τ 1607 [(4, .int (iI j)), (0, .ref b0), (1, .ref (bs γ + 0)), (2, .ref (bs γ + 255)), (3, .ref (bs γ + 263))] [] := by
  have hL := E.2.2.2
  obtain ⟨hM, hC, hO⟩ := hI
  have hW := hO.2.2.2.1
  refine v_aload_n (pc := 1607) C 2 rfl dL_law_1607 ?_
  refine v_cv (pc := 1608) (as := []) C (cy_X5_tightest G) (wM_L_188 G) sh_0 (ci := 3) rfl rfl (k_X5_tightest G hC hO) dL_law_1608 rfl rfl (by decide) (by decide) (Nat.le_of_ble_eq_true rfl) ⟨by omega, by omega⟩ (k_I (fun z1 σ1 q1 => ?_))
  obtain ⟨g1, e1, hC1, hE1⟩ := q1
  refine v_st (mR_eq (hM.cong (fun c c0 _ => hE1 c c0))) ?_
  refine v_aload_n (pc := 1611) C 3 rfl dL_law_1611 ?_
  refine v_cv (pc := 1612) (as := []) C (cy_X6_tightest G) (wM_L_191 G) sh_255 (ci := 4) rfl rfl (k_X6_tightest G hW) dL_law_1612 rfl rfl (by decide) (by decide) (Nat.le_of_ble_eq_true rfl) ⟨by omega, by omega⟩ (k_I (fun z2 σ2 q2 => ?_))
  obtain ⟨⟨p2, u2, x2, f2, rfl⟩, e2⟩ := q2
  refine v_icmp_eqT (pc := 1615) C 1932 dL_law_1615 (by decide) (e1.trans (e2 g1).symm) ?_
  exact v_wide (by omega) (by omega) (v_lv _ [0, 1, 2, 3, 4] rfl (K _ _ _ _ _ _ _ _ _ _ _ _ _ (LI_next hC1 (ok_tightest hO))))

set_option maxHeartbeats 4000000 in
set_option maxRecDepth 100000 in
theorem lc_runScript {γ : Gm} {φ : Fx} {b0 L : Nat} {xs : Nat → Int32} {A0 B0 : Nat} {Q : State → Prop} {j : Int} {τ : St} {w s a p u : Int} {t n x f d k i : Int → Int} (G : Glo γ) (N : GNc γ) (C : Cx γ φ RL cL_law 7 20) (E : LE γ φ b0 L xs) (hcr : A0 + 1 ≤ φ.2.2.1.cells ∧ B0 + 6 ≤ φ.2.2.1.slots) (hj : 0 ≤ j ∧ j + 6 ≤ L) (hI : LI τ w s a p u t n x f d k i)
    (K : ∀ (τ : St) (w s a p u : Int) (t n x f d k i : Int → Int), LI τ w s a p u t n x f d k i → Vw γ φ 7 (A0 + 1) (B0 + 6) Q τ 1932 [(4, .int (iI j)), (0, .ref b0), (1, .ref (bs γ + 0)), (2, .ref (bs γ + 255)), (3, .ref (bs γ + 263))] []) : Vw γ φ 7 A0 B0 Q τ 1620 [(4, .int (iI j)), (0, .ref b0), (1, .ref (bs γ + 0)), (2, .ref (bs γ + 255)), (3, .ref (bs γ + 263))] [] := by
  have hL := E.2.2.2
  obtain ⟨hM, hC, hO⟩ := hI
  have hW := hO.2.2.2.1
  refine v_aload_n (pc := 1620) C 2 rfl dL_law_1620 ?_
  refine v_aload_n (pc := 1621) C 1 rfl dL_law_1621 ?_
  refine v_iload (pc := 1622) C 0 rfl dL_law_1622 ?_
  refine v_iconst (pc := 1624) C dL_law_1624 ?_
  refine v_iadd (pc := 1625) C dL_law_1625 ?_
  refine v_sld (pc := 1626) C E (by omega) dL_law_1626 ?_
  refine v_aload_n (pc := 1627) C 1 rfl dL_law_1627 ?_
  refine v_iload (pc := 1628) C 0 rfl dL_law_1628 ?_
  refine v_iconst (pc := 1630) C dL_law_1630 ?_
  refine v_iadd (pc := 1631) C dL_law_1631 ?_
  refine v_sld (pc := 1632) C E (by omega) dL_law_1632 ?_
  refine v_i2l (pc := 1633) C (XS_r _ _) dL_law_1633 ?_
  refine v_bipush (pc := 1634) C (by decide +kernel) dL_law_1634 ?_
  refine v_lshl (pc := 1636) C dL_law_1636 ?_
  refine v_aload_n (pc := 1637) C 1 rfl dL_law_1637 ?_
  refine v_iload (pc := 1638) C 0 rfl dL_law_1638 ?_
  refine v_iconst (pc := 1640) C dL_law_1640 ?_
  refine v_iadd (pc := 1641) C dL_law_1641 ?_
  refine v_sld (pc := 1642) C E (by omega) dL_law_1642 ?_
  refine v_i2l (pc := 1643) C (XS_r _ _) dL_law_1643 ?_
  refine v_ldc2 (pc := 1644) C (wCL_L_192 G) dL_law_1644 ?_
  refine v_land (pc := 1647) C dL_law_1647 ?_
  refine v_lor (pc := 1648) C dL_law_1648 ?_
  refine v_aload_n (pc := 1649) C 4 rfl dL_law_1649 ?_
  refine v_csW (pc := 1650) (as := [.ref (bs γ + 0), .int (iI (XS xs (j + 1))), .long (lI (lOr (lShl (XS xs (j + 2)) 32) (lAnd (XS xs (j + 3)) 4294967295))), .ref (bs γ + 263)]) C (cy_L_runScript G) (wM_L_194 G) (k_L_runScript G N hC hO (XS_r _ _) (lI_rng _)) dL_law_1650 rfl rfl (by decide) (by decide) (Nat.le_of_ble_eq_true rfl) hcr (k_I (fun z1 σ1 q1 => ?_))
  obtain ⟨e1, h1o, hC1, hE1⟩ := q1
  refine v_st (mR_eq (hM.cong hE1)) ?_
  refine v_istore (pc := 1653) C [(5, .int (iI z1)), (4, .int (iI j)), (0, .ref b0), (1, .ref (bs γ + 0)), (2, .ref (bs γ + 255)), (3, .ref (bs γ + 263))] dL_law_1653 (by decide) rfl ?_
  refine v_aload_n (pc := 1655) C 4 rfl dL_law_1655 ?_
  refine v_aload_n (pc := 1656) C 2 rfl dL_law_1656 ?_
  refine v_iload (pc := 1657) C 1 rfl dL_law_1657 ?_
  refine v_iconst (pc := 1659) C dL_law_1659 ?_
  refine v_iadd (pc := 1660) C dL_law_1660 ?_
  refine v_sld (pc := 1661) C E (by omega) dL_law_1661 ?_
  refine v_aload_n (pc := 1662) C 2 rfl dL_law_1662 ?_
  refine v_iload (pc := 1663) C 1 rfl dL_law_1663 ?_
  refine v_iconst (pc := 1665) C dL_law_1665 ?_
  refine v_iadd (pc := 1666) C dL_law_1666 ?_
  refine v_sld (pc := 1667) C E (by omega) dL_law_1667 ?_
  refine v_i2l (pc := 1668) C (XS_r _ _) dL_law_1668 ?_
  refine v_bipush (pc := 1669) C (by decide +kernel) dL_law_1669 ?_
  refine v_lshl (pc := 1671) C dL_law_1671 ?_
  refine v_aload_n (pc := 1672) C 2 rfl dL_law_1672 ?_
  refine v_iload (pc := 1673) C 1 rfl dL_law_1673 ?_
  refine v_iconst (pc := 1675) C dL_law_1675 ?_
  refine v_iadd (pc := 1676) C dL_law_1676 ?_
  refine v_sld (pc := 1677) C E (by omega) dL_law_1677 ?_
  refine v_i2l (pc := 1678) C (XS_r _ _) dL_law_1678 ?_
  refine v_ldc2 (pc := 1679) C (wCL_L_192 G) dL_law_1679 ?_
  refine v_land (pc := 1682) C dL_law_1682 ?_
  refine v_lor (pc := 1683) C dL_law_1683 ?_
  refine v_cv (pc := 1684) (as := [.int (iI (XS xs (j + 1))), .long (lI (lOr (lShl (XS xs (j + 2)) 32) (lAnd (XS xs (j + 3)) 4294967295)))]) C (cy_X6_runScript G) (wM_L_197 G) sh_255 (ci := 4) rfl rfl (k_X6_runScript G (XS_r _ _) hW (lI_rng _)) dL_law_1684 rfl rfl (by decide) (by decide) (Nat.le_of_ble_eq_true rfl) ⟨by omega, by omega⟩ (k_I (fun z2 σ2 q2 => ?_))
  obtain ⟨⟨p2, u2, x2, f2, rfl⟩, e2⟩ := q2
  refine v_istore (pc := 1687) C [(6, .int (iI z2)), (5, .int (iI z1)), (4, .int (iI j)), (0, .ref b0), (1, .ref (bs γ + 0)), (2, .ref (bs γ + 255)), (3, .ref (bs γ + 263))] dL_law_1687 (by decide) rfl ?_
  refine v_aload_n (pc := 1689) C 5 rfl dL_law_1689 ?_
  refine v_cv (pc := 1690) (as := []) C (cy_X6_thrown G) (wM_L_108 G) sh_255 (ci := 4) rfl rfl (k_X6_thrown G) dL_law_1690 rfl rfl (by decide) (by decide) (Nat.le_of_ble_eq_true rfl) ⟨by omega, by omega⟩ (k_I (fun z3 σ3 q3 => ?_))
  obtain ⟨e3, rfl⟩ := q3
  refine v_iload (pc := 1693) C 1 rfl dL_law_1693 ?_
  refine v_icmp_eqT (pc := 1695) C 1700 dL_law_1695 (by decide) ((e3.trans (mA_w _ _ _ _ _ _ _)).trans e1.symm) ?_
  refine v_iload (pc := 1700) C 1 rfl dL_law_1700 ?_
  have hcd := cd_runScript s a t n d k i (XS xs (j + 1)) (lOr (lShl (XS xs (j + 2)) 32) (lAnd (XS xs (j + 3)) 4294967295))
  refine v_if_ne (pc := 1702) C 1717 (by omega) dL_law_1702 (by decide) (fun h0 => ?_) (fun h0 => ?_)
  · refine v_goto (pc := 1717) C 1932 dL_law_1717 (by decide) ?_
    exact v_lv _ [2, 3, 4, 5, 6] rfl (K _ _ _ _ _ _ _ _ _ _ _ _ _ (LI_next hC1 (ok_runScript hO (XS xs (j + 1)) (lOr (lShl (XS xs (j + 2)) 32) (lAnd (XS xs (j + 3)) 4294967295)))))
  · refine v_aload_n (pc := 1705) C 6 rfl dL_law_1705 ?_
    refine v_iconst (pc := 1706) C dL_law_1706 ?_
    refine v_lald (pc := 1707) C sh_263 (by decide) (by decide) dL_law_1707 (fun z9 e9 r9 => ?_)
    have h9 : z9 = bmz z2 := by rw [e9, mA_out, e2 (by omega)]; exact h1o (by omega)
    refine v_iload (pc := 1708) C 0 rfl dL_law_1708 ?_
    refine v_bm ?_
    refine v_i2l (pc := 1710) C (bmz_r _) dL_law_1710 ?_
    refine v_lcmp (pc := 1711) C (by omega) (by have := bmz_r z2; omega) dL_law_1711 ?_
    refine v_ti (x2 := 0) (by rw [if_neg (by omega), if_pos h9]) ?_
    refine v_if_eq (pc := 1712) C 1717 (by first | omega | assumption) dL_law_1712 (by decide) (fun _ => ?_) (fun h => absurd h (by decide))
    refine v_goto (pc := 1717) C 1932 dL_law_1717 (by decide) ?_
    exact v_lv _ [2, 3, 4, 5, 6] rfl (K _ _ _ _ _ _ _ _ _ _ _ _ _ (LI_next hC1 (ok_runScript hO (XS xs (j + 1)) (lOr (lShl (XS xs (j + 2)) 32) (lAnd (XS xs (j + 3)) 4294967295)))))

set_option maxHeartbeats 4000000 in
set_option maxRecDepth 100000 in
theorem lc_simulate {γ : Gm} {φ : Fx} {b0 L : Nat} {xs : Nat → Int32} {A0 B0 : Nat} {Q : State → Prop} {j : Int} {τ : St} {w s a p u : Int} {t n x f d k i : Int → Int} (G : Glo γ) (N : GNc γ) (C : Cx γ φ RL cL_law 7 20) (E : LE γ φ b0 L xs) (hcr : A0 + 1 ≤ φ.2.2.1.cells ∧ B0 + 6 ≤ φ.2.2.1.slots) (hj : 0 ≤ j ∧ j + 6 ≤ L) (hI : LI τ w s a p u t n x f d k i)
    (K : ∀ (τ : St) (w s a p u : Int) (t n x f d k i : Int → Int), LI τ w s a p u t n x f d k i → Vw γ φ 7 (A0 + 1) (B0 + 6) Q τ 1932 [(4, .int (iI j)), (0, .ref b0), (1, .ref (bs γ + 0)), (2, .ref (bs γ + 255)), (3, .ref (bs γ + 263))] []) : Vw γ φ 7 A0 B0 Q τ 1720 [(4, .int (iI j)), (0, .ref b0), (1, .ref (bs γ + 0)), (2, .ref (bs γ + 255)), (3, .ref (bs γ + 263))] [] := by
  have hL := E.2.2.2
  obtain ⟨hM, hC, hO⟩ := hI
  have hW := hO.2.2.2.1
  refine v_aload_n (pc := 1720) C 2 rfl dL_law_1720 ?_
  refine v_aload_n (pc := 1721) C 1 rfl dL_law_1721 ?_
  refine v_iload (pc := 1722) C 0 rfl dL_law_1722 ?_
  refine v_iconst (pc := 1724) C dL_law_1724 ?_
  refine v_iadd (pc := 1725) C dL_law_1725 ?_
  refine v_sld (pc := 1726) C E (by omega) dL_law_1726 ?_
  refine v_i2l (pc := 1727) C (XS_r _ _) dL_law_1727 ?_
  refine v_bipush (pc := 1728) C (by decide +kernel) dL_law_1728 ?_
  refine v_lshl (pc := 1730) C dL_law_1730 ?_
  refine v_aload_n (pc := 1731) C 1 rfl dL_law_1731 ?_
  refine v_iload (pc := 1732) C 0 rfl dL_law_1732 ?_
  refine v_iconst (pc := 1734) C dL_law_1734 ?_
  refine v_iadd (pc := 1735) C dL_law_1735 ?_
  refine v_sld (pc := 1736) C E (by omega) dL_law_1736 ?_
  refine v_i2l (pc := 1737) C (XS_r _ _) dL_law_1737 ?_
  refine v_ldc2 (pc := 1738) C (wCL_L_192 G) dL_law_1738 ?_
  refine v_land (pc := 1741) C dL_law_1741 ?_
  refine v_lor (pc := 1742) C dL_law_1742 ?_
  refine v_aload_n (pc := 1743) C 1 rfl dL_law_1743 ?_
  refine v_iload (pc := 1744) C 0 rfl dL_law_1744 ?_
  refine v_iconst (pc := 1746) C dL_law_1746 ?_
  refine v_iadd (pc := 1747) C dL_law_1747 ?_
  refine v_sld (pc := 1748) C E (by omega) dL_law_1748 ?_
  refine v_aload_n (pc := 1749) C 4 rfl dL_law_1749 ?_
  refine v_csW (pc := 1750) (as := [.ref (bs γ + 0), .long (lI (lOr (lShl (XS xs (j + 1)) 32) (lAnd (XS xs (j + 2)) 4294967295))), .int (iI (XS xs (j + 3))), .ref (bs γ + 263)]) C (cy_L_simulate G) (wM_L_198 G) (k_L_simulate G N hC hO (XS_r _ _)) dL_law_1750 rfl rfl (by decide) (by decide) (Nat.le_of_ble_eq_true rfl) hcr (k_I (fun z1 σ1 q1 => ?_))
  obtain ⟨e1, h1o, hC1, hE1⟩ := q1
  refine v_st (mR_eq (hM.cong hE1)) ?_
  refine v_istore (pc := 1753) C [(5, .int (iI z1)), (4, .int (iI j)), (0, .ref b0), (1, .ref (bs γ + 0)), (2, .ref (bs γ + 255)), (3, .ref (bs γ + 263))] dL_law_1753 (by decide) rfl ?_
  refine v_aload_n (pc := 1755) C 4 rfl dL_law_1755 ?_
  refine v_aload_n (pc := 1756) C 2 rfl dL_law_1756 ?_
  refine v_iload (pc := 1757) C 1 rfl dL_law_1757 ?_
  refine v_iconst (pc := 1759) C dL_law_1759 ?_
  refine v_iadd (pc := 1760) C dL_law_1760 ?_
  refine v_sld (pc := 1761) C E (by omega) dL_law_1761 ?_
  refine v_i2l (pc := 1762) C (XS_r _ _) dL_law_1762 ?_
  refine v_bipush (pc := 1763) C (by decide +kernel) dL_law_1763 ?_
  refine v_lshl (pc := 1765) C dL_law_1765 ?_
  refine v_aload_n (pc := 1766) C 2 rfl dL_law_1766 ?_
  refine v_iload (pc := 1767) C 1 rfl dL_law_1767 ?_
  refine v_iconst (pc := 1769) C dL_law_1769 ?_
  refine v_iadd (pc := 1770) C dL_law_1770 ?_
  refine v_sld (pc := 1771) C E (by omega) dL_law_1771 ?_
  refine v_i2l (pc := 1772) C (XS_r _ _) dL_law_1772 ?_
  refine v_ldc2 (pc := 1773) C (wCL_L_192 G) dL_law_1773 ?_
  refine v_land (pc := 1776) C dL_law_1776 ?_
  refine v_lor (pc := 1777) C dL_law_1777 ?_
  refine v_aload_n (pc := 1778) C 2 rfl dL_law_1778 ?_
  refine v_iload (pc := 1779) C 1 rfl dL_law_1779 ?_
  refine v_iconst (pc := 1781) C dL_law_1781 ?_
  refine v_iadd (pc := 1782) C dL_law_1782 ?_
  refine v_sld (pc := 1783) C E (by omega) dL_law_1783 ?_
  refine v_cv (pc := 1784) (as := [.long (lI (lOr (lShl (XS xs (j + 1)) 32) (lAnd (XS xs (j + 2)) 4294967295))), .int (iI (XS xs (j + 3)))]) C (cy_X6_simulate G) (wM_L_201 G) sh_255 (ci := 4) rfl rfl (k_X6_simulate G (XS_r _ _) hW) dL_law_1784 rfl rfl (by decide) (by decide) (Nat.le_of_ble_eq_true rfl) ⟨by omega, by omega⟩ (k_I (fun z2 σ2 q2 => ?_))
  obtain ⟨⟨p2, u2, x2, f2, rfl⟩, e2⟩ := q2
  refine v_istore (pc := 1787) C [(6, .int (iI z2)), (5, .int (iI z1)), (4, .int (iI j)), (0, .ref b0), (1, .ref (bs γ + 0)), (2, .ref (bs γ + 255)), (3, .ref (bs γ + 263))] dL_law_1787 (by decide) rfl ?_
  refine v_aload_n (pc := 1789) C 5 rfl dL_law_1789 ?_
  refine v_cv (pc := 1790) (as := []) C (cy_X6_thrown G) (wM_L_108 G) sh_255 (ci := 4) rfl rfl (k_X6_thrown G) dL_law_1790 rfl rfl (by decide) (by decide) (Nat.le_of_ble_eq_true rfl) ⟨by omega, by omega⟩ (k_I (fun z3 σ3 q3 => ?_))
  obtain ⟨e3, rfl⟩ := q3
  refine v_iload (pc := 1793) C 1 rfl dL_law_1793 ?_
  refine v_icmp_eqT (pc := 1795) C 1800 dL_law_1795 (by decide) ((e3.trans (mA_w _ _ _ _ _ _ _)).trans e1.symm) ?_
  refine v_iload (pc := 1800) C 1 rfl dL_law_1800 ?_
  have hcd := cd_simulate s a t n d k i (lOr (lShl (XS xs (j + 1)) 32) (lAnd (XS xs (j + 2)) 4294967295)) (XS xs (j + 3))
  refine v_if_ne (pc := 1802) C 1817 (by omega) dL_law_1802 (by decide) (fun h0 => ?_) (fun h0 => ?_)
  · refine v_goto (pc := 1817) C 1932 dL_law_1817 (by decide) ?_
    exact v_lv _ [2, 3, 4, 5, 6] rfl (K _ _ _ _ _ _ _ _ _ _ _ _ _ (LI_next hC1 (ok_simulate hO (lOr (lShl (XS xs (j + 1)) 32) (lAnd (XS xs (j + 2)) 4294967295)) (XS xs (j + 3)))))
  · refine v_aload_n (pc := 1805) C 6 rfl dL_law_1805 ?_
    refine v_iconst (pc := 1806) C dL_law_1806 ?_
    refine v_lald (pc := 1807) C sh_263 (by decide) (by decide) dL_law_1807 (fun z9 e9 r9 => ?_)
    have h9 : z9 = bmz z2 := by rw [e9, mA_out, e2 (by omega)]; exact h1o (by omega)
    refine v_iload (pc := 1808) C 0 rfl dL_law_1808 ?_
    refine v_bm ?_
    refine v_i2l (pc := 1810) C (bmz_r _) dL_law_1810 ?_
    refine v_lcmp (pc := 1811) C (by omega) (by have := bmz_r z2; omega) dL_law_1811 ?_
    refine v_ti (x2 := 0) (by rw [if_neg (by omega), if_pos h9]) ?_
    refine v_if_eq (pc := 1812) C 1817 (by first | omega | assumption) dL_law_1812 (by decide) (fun _ => ?_) (fun h => absurd h (by decide))
    refine v_goto (pc := 1817) C 1932 dL_law_1817 (by decide) ?_
    exact v_lv _ [2, 3, 4, 5, 6] rfl (K _ _ _ _ _ _ _ _ _ _ _ _ _ (LI_next hC1 (ok_simulate hO (lOr (lShl (XS xs (j + 1)) 32) (lAnd (XS xs (j + 2)) 4294967295)) (XS xs (j + 3)))))

set_option maxHeartbeats 4000000 in
set_option maxRecDepth 100000 in
theorem lc_save {γ : Gm} {φ : Fx} {b0 L : Nat} {xs : Nat → Int32} {A0 B0 : Nat} {Q : State → Prop} {j : Int} {τ : St} {w s a p u : Int} {t n x f d k i : Int → Int} (G : Glo γ) (N : GNc γ) (C : Cx γ φ RL cL_law 7 20) (E : LE γ φ b0 L xs) (hcr : A0 + 1 ≤ φ.2.2.1.cells ∧ B0 + 6 ≤ φ.2.2.1.slots) (hj : 0 ≤ j ∧ j + 6 ≤ L) (hI : LI τ w s a p u t n x f d k i)
    (K : ∀ (τ : St) (w s a p u : Int) (t n x f d k i : Int → Int), LI τ w s a p u t n x f d k i → Vw γ φ 7 (A0 + 1) (B0 + 6) Q τ 1932 [(4, .int (iI j)), (0, .ref b0), (1, .ref (bs γ + 0)), (2, .ref (bs γ + 255)), (3, .ref (bs γ + 263))] []) : Vw γ φ 7 A0 B0 Q τ 1820 [(4, .int (iI j)), (0, .ref b0), (1, .ref (bs γ + 0)), (2, .ref (bs γ + 255)), (3, .ref (bs γ + 263))] [] := by
  have hL := E.2.2.2
  obtain ⟨hM, hC, hO⟩ := hI
  have hW := hO.2.2.2.1
  refine v_aload_n (pc := 1820) C 2 rfl dL_law_1820 ?_
  refine v_aload_n (pc := 1821) C 1 rfl dL_law_1821 ?_
  refine v_iload (pc := 1822) C 0 rfl dL_law_1822 ?_
  refine v_iconst (pc := 1824) C dL_law_1824 ?_
  refine v_iadd (pc := 1825) C dL_law_1825 ?_
  refine v_sld (pc := 1826) C E (by omega) dL_law_1826 ?_
  refine v_aload_n (pc := 1827) C 4 rfl dL_law_1827 ?_
  refine v_csW (pc := 1828) (as := [.ref (bs γ + 0), .int (iI (XS xs (j + 1))), .ref (bs γ + 263)]) C (cy_L_save G) (wM_L_202 G) (k_L_save G N hC hO (XS_r _ _)) dL_law_1828 rfl rfl (by decide) (by decide) (Nat.le_of_ble_eq_true rfl) hcr (k_I (fun z1 σ1 q1 => ?_))
  obtain ⟨e1, h1o, hC1, hE1⟩ := q1
  refine v_st (mR_eq (hM.cong hE1)) ?_
  refine v_istore (pc := 1831) C [(5, .int (iI z1)), (4, .int (iI j)), (0, .ref b0), (1, .ref (bs γ + 0)), (2, .ref (bs γ + 255)), (3, .ref (bs γ + 263))] dL_law_1831 (by decide) rfl ?_
  refine v_aload_n (pc := 1833) C 4 rfl dL_law_1833 ?_
  refine v_aload_n (pc := 1834) C 2 rfl dL_law_1834 ?_
  refine v_iload (pc := 1835) C 1 rfl dL_law_1835 ?_
  refine v_iconst (pc := 1837) C dL_law_1837 ?_
  refine v_iadd (pc := 1838) C dL_law_1838 ?_
  refine v_sld (pc := 1839) C E (by omega) dL_law_1839 ?_
  refine v_cv (pc := 1840) (as := [.int (iI (XS xs (j + 1)))]) C (cy_X6_save G) (wM_L_204 G) sh_255 (ci := 4) rfl rfl (k_X6_save G (XS_r _ _) ) dL_law_1840 rfl rfl (by decide) (by decide) (Nat.le_of_ble_eq_true rfl) ⟨by omega, by omega⟩ (k_I (fun z2 σ2 q2 => ?_))
  obtain ⟨⟨p2, u2, x2, f2, rfl⟩, e2⟩ := q2
  refine v_istore (pc := 1843) C [(6, .int (iI z2)), (5, .int (iI z1)), (4, .int (iI j)), (0, .ref b0), (1, .ref (bs γ + 0)), (2, .ref (bs γ + 255)), (3, .ref (bs γ + 263))] dL_law_1843 (by decide) rfl ?_
  refine v_aload_n (pc := 1845) C 5 rfl dL_law_1845 ?_
  refine v_cv (pc := 1846) (as := []) C (cy_X6_thrown G) (wM_L_108 G) sh_255 (ci := 4) rfl rfl (k_X6_thrown G) dL_law_1846 rfl rfl (by decide) (by decide) (Nat.le_of_ble_eq_true rfl) ⟨by omega, by omega⟩ (k_I (fun z3 σ3 q3 => ?_))
  obtain ⟨e3, rfl⟩ := q3
  refine v_iload (pc := 1849) C 1 rfl dL_law_1849 ?_
  refine v_icmp_eqT (pc := 1851) C 1856 dL_law_1851 (by decide) ((e3.trans (mA_w _ _ _ _ _ _ _)).trans e1.symm) ?_
  refine v_iload (pc := 1856) C 1 rfl dL_law_1856 ?_
  have hcd := cd_save s a t n d k i (XS xs (j + 1))
  refine v_if_ne (pc := 1858) C 1873 (by omega) dL_law_1858 (by decide) (fun h0 => ?_) (fun h0 => ?_)
  · refine v_goto (pc := 1873) C 1932 dL_law_1873 (by decide) ?_
    exact v_lv _ [2, 3, 4, 5, 6] rfl (K _ _ _ _ _ _ _ _ _ _ _ _ _ (LI_next hC1 (ok_save hO (XS xs (j + 1)))))
  · refine v_aload_n (pc := 1861) C 6 rfl dL_law_1861 ?_
    refine v_iconst (pc := 1862) C dL_law_1862 ?_
    refine v_lald (pc := 1863) C sh_263 (by decide) (by decide) dL_law_1863 (fun z9 e9 r9 => ?_)
    have h9 : z9 = bmz z2 := by rw [e9, mA_out, e2 (by omega)]; exact h1o (by omega)
    refine v_iload (pc := 1864) C 0 rfl dL_law_1864 ?_
    refine v_bm ?_
    refine v_i2l (pc := 1866) C (bmz_r _) dL_law_1866 ?_
    refine v_lcmp (pc := 1867) C (by omega) (by have := bmz_r z2; omega) dL_law_1867 ?_
    refine v_ti (x2 := 0) (by rw [if_neg (by omega), if_pos h9]) ?_
    refine v_if_eq (pc := 1868) C 1873 (by first | omega | assumption) dL_law_1868 (by decide) (fun _ => ?_) (fun h => absurd h (by decide))
    refine v_goto (pc := 1873) C 1932 dL_law_1873 (by decide) ?_
    exact v_lv _ [2, 3, 4, 5, 6] rfl (K _ _ _ _ _ _ _ _ _ _ _ _ _ (LI_next hC1 (ok_save hO (XS xs (j + 1)))))

set_option maxHeartbeats 4000000 in
set_option maxRecDepth 100000 in
theorem lc_restore {γ : Gm} {φ : Fx} {b0 L : Nat} {xs : Nat → Int32} {A0 B0 : Nat} {Q : State → Prop} {j : Int} {τ : St} {w s a p u : Int} {t n x f d k i : Int → Int} (G : Glo γ) (N : GNc γ) (C : Cx γ φ RL cL_law 7 20) (E : LE γ φ b0 L xs) (hcr : A0 + 1 ≤ φ.2.2.1.cells ∧ B0 + 6 ≤ φ.2.2.1.slots) (hj : 0 ≤ j ∧ j + 6 ≤ L) (hI : LI τ w s a p u t n x f d k i)
    (K : ∀ (τ : St) (w s a p u : Int) (t n x f d k i : Int → Int), LI τ w s a p u t n x f d k i → Vw γ φ 7 (A0 + 1) (B0 + 6) Q τ 1932 [(4, .int (iI j)), (0, .ref b0), (1, .ref (bs γ + 0)), (2, .ref (bs γ + 255)), (3, .ref (bs γ + 263))] []) : Vw γ φ 7 A0 B0 Q τ 1876 [(4, .int (iI j)), (0, .ref b0), (1, .ref (bs γ + 0)), (2, .ref (bs γ + 255)), (3, .ref (bs γ + 263))] [] := by
  have hL := E.2.2.2
  obtain ⟨hM, hC, hO⟩ := hI
  have hW := hO.2.2.2.1
  refine v_aload_n (pc := 1876) C 2 rfl dL_law_1876 ?_
  refine v_aload_n (pc := 1877) C 1 rfl dL_law_1877 ?_
  refine v_iload (pc := 1878) C 0 rfl dL_law_1878 ?_
  refine v_iconst (pc := 1880) C dL_law_1880 ?_
  refine v_iadd (pc := 1881) C dL_law_1881 ?_
  refine v_sld (pc := 1882) C E (by omega) dL_law_1882 ?_
  refine v_aload_n (pc := 1883) C 4 rfl dL_law_1883 ?_
  refine v_csW (pc := 1884) (as := [.ref (bs γ + 0), .int (iI (XS xs (j + 1))), .ref (bs γ + 263)]) C (cy_L_restore G) (wM_L_205 G) (k_L_restore G N hC hO (XS_r _ _)) dL_law_1884 rfl rfl (by decide) (by decide) (Nat.le_of_ble_eq_true rfl) hcr (k_I (fun z1 σ1 q1 => ?_))
  obtain ⟨e1, h1o, hC1, hE1⟩ := q1
  refine v_st (mR_eq (hM.cong hE1)) ?_
  refine v_istore (pc := 1887) C [(5, .int (iI z1)), (4, .int (iI j)), (0, .ref b0), (1, .ref (bs γ + 0)), (2, .ref (bs γ + 255)), (3, .ref (bs γ + 263))] dL_law_1887 (by decide) rfl ?_
  refine v_aload_n (pc := 1889) C 4 rfl dL_law_1889 ?_
  refine v_aload_n (pc := 1890) C 2 rfl dL_law_1890 ?_
  refine v_iload (pc := 1891) C 1 rfl dL_law_1891 ?_
  refine v_iconst (pc := 1893) C dL_law_1893 ?_
  refine v_iadd (pc := 1894) C dL_law_1894 ?_
  refine v_sld (pc := 1895) C E (by omega) dL_law_1895 ?_
  refine v_cv (pc := 1896) (as := [.int (iI (XS xs (j + 1)))]) C (cy_X6_restore G) (wM_L_207 G) sh_255 (ci := 4) rfl rfl (k_X6_restore G (XS_r _ _) ) dL_law_1896 rfl rfl (by decide) (by decide) (Nat.le_of_ble_eq_true rfl) ⟨by omega, by omega⟩ (k_I (fun z2 σ2 q2 => ?_))
  obtain ⟨⟨p2, u2, x2, f2, rfl⟩, e2⟩ := q2
  refine v_istore (pc := 1899) C [(6, .int (iI z2)), (5, .int (iI z1)), (4, .int (iI j)), (0, .ref b0), (1, .ref (bs γ + 0)), (2, .ref (bs γ + 255)), (3, .ref (bs γ + 263))] dL_law_1899 (by decide) rfl ?_
  refine v_aload_n (pc := 1901) C 5 rfl dL_law_1901 ?_
  refine v_cv (pc := 1902) (as := []) C (cy_X6_thrown G) (wM_L_108 G) sh_255 (ci := 4) rfl rfl (k_X6_thrown G) dL_law_1902 rfl rfl (by decide) (by decide) (Nat.le_of_ble_eq_true rfl) ⟨by omega, by omega⟩ (k_I (fun z3 σ3 q3 => ?_))
  obtain ⟨e3, rfl⟩ := q3
  refine v_iload (pc := 1905) C 1 rfl dL_law_1905 ?_
  refine v_icmp_eqT (pc := 1907) C 1912 dL_law_1907 (by decide) ((e3.trans (mA_w _ _ _ _ _ _ _)).trans e1.symm) ?_
  refine v_iload (pc := 1912) C 1 rfl dL_law_1912 ?_
  have hcd := cd_restore s a t n d k i (XS xs (j + 1))
  refine v_if_ne (pc := 1914) C 1929 (by omega) dL_law_1914 (by decide) (fun h0 => ?_) (fun h0 => ?_)
  · refine v_goto (pc := 1929) C 1932 dL_law_1929 (by decide) ?_
    exact v_lv _ [2, 3, 4, 5, 6] rfl (K _ _ _ _ _ _ _ _ _ _ _ _ _ (LI_next hC1 (ok_restore hO (XS xs (j + 1)))))
  · refine v_aload_n (pc := 1917) C 6 rfl dL_law_1917 ?_
    refine v_iconst (pc := 1918) C dL_law_1918 ?_
    refine v_lald (pc := 1919) C sh_263 (by decide) (by decide) dL_law_1919 (fun z9 e9 r9 => ?_)
    have h9 : z9 = bmz z2 := by rw [e9, mA_out, e2 (by omega)]; exact h1o (by omega)
    refine v_iload (pc := 1920) C 0 rfl dL_law_1920 ?_
    refine v_bm ?_
    refine v_i2l (pc := 1922) C (bmz_r _) dL_law_1922 ?_
    refine v_lcmp (pc := 1923) C (by omega) (by have := bmz_r z2; omega) dL_law_1923 ?_
    refine v_ti (x2 := 0) (by rw [if_neg (by omega), if_pos h9]) ?_
    refine v_if_eq (pc := 1924) C 1929 (by first | omega | assumption) dL_law_1924 (by decide) (fun _ => ?_) (fun h => absurd h (by decide))
    refine v_goto (pc := 1929) C 1932 dL_law_1929 (by decide) ?_
    exact v_lv _ [2, 3, 4, 5, 6] rfl (K _ _ _ _ _ _ _ _ _ _ _ _ _ (LI_next hC1 (ok_restore hO (XS xs (j + 1)))))
