/-! the law's cases 16 to 23 (laid by wip/whole/mkcase.py) -/
section CASE2
variable {K : gKx} {G : gG} {S : gS} {T : gT} {A : aW} {N : Nat} {X : mX} {c0 s0 scr L i : Nat} {xs : Nat → Int32}
set_option maxRecDepth 100000 in
theorem cs_16 (g : Gd K RL cL_law 1475) (hs : gScr K scr L xs) (hfl : flOk) (h : wR G S T A N X) (hN : N + 40000 ≤ 2 ^ 30) (hij : i + 5 ≤ L) (kk : ∀ S' T' X', wR G S' T' A (N + 40000) X' → Xj K [] G 3276 (lvL scr (ax A) (am A) (ao A) (aoD A) i) [] S' T' c0 s0) : Xj K [] G 1224 (lvL scr (ax A) (am A) (ao A) (aoD A) i) [] S T (c0 + 8) (s0 + 400) := by
  obtain ⟨hx, hm, ho, hn, hoD, hnD⟩ := h.o
  obtain ⟨res, S1, T1, X1, h5, hX1, hc1, h6⟩ := (x_reward h (xs (i + 1)) (xs (i + 2)) (nz (xs (i + 3)))).step h
  obtain ⟨h5, rfl, rfl⟩ := h5
  have rest : ∀ (kv : Int32) (S3 S2 : gS) (b : Int32), f_X6_reward G (am A) (xs (i + 1)) (xs (i + 2)) (nz (xs (i + 3))) S3 = some (b, S2) → wC G S2 T1 A X1 X1 → gI S2 30 (am A) = kv → (kv = 0 → gr S2 (ao A) 0 = b) → Xj K [] G 1257 ((lvL scr (ax A) (am A) (ao A) (aoD A) i).set 6 (some (.int kv))) [] S3 T1 c0 s0 := by
    intro kv S3 S2 b e6 c6 t6 v6
    refine x_aload_n 2 g dL_law_1257 rfl rfl ?_
    refine x_arg g hs (j := 1) rfl rfl rfl (by omega) dL_law_1258 dL_law_1259 dL_law_1261 dL_law_1262 dL_law_1263 ?_
    refine x_arg g hs (j := 2) rfl rfl rfl (by omega) dL_law_1264 dL_law_1265 dL_law_1267 dL_law_1268 dL_law_1269 ?_
    refine x_arg g hs (j := 3) rfl rfl rfl (by omega) dL_law_1270 dL_law_1271 dL_law_1273 dL_law_1274 dL_law_1275 ?_
    refine x_bool g rfl rfl rfl (p8 := 1284) rfl dL_law_1276 dL_law_1279 dL_law_1280 dL_law_1283 ?_
    refine x_cV [.int b] g (k_X6_reward e6) ca_X6_reward in_X6_reward se_X6_reward lm_L_230 gXX6 hm (Nat.le_of_ble_eq_true rfl) rfl rfl (Nat.le_of_ble_eq_true rfl) dL_law_1284 rfl ?_
    refine x_istore g dL_law_1287 (Nat.le_of_ble_eq_true rfl) rfl ?_
    refine x_tailI g (by decide) hm ho hn rfl rfl rfl rfl t6 v6 (by decide) dL_law_1289 dL_law_1290 dL_law_1293 dL_law_1295 dL_law_1300 dL_law_1302 dL_law_1305 dL_law_1306 dL_law_1307 dL_law_1308 dL_law_1310 dL_law_1311 dL_law_1312 dL_law_1317 ?_
    refine x_drp 6 (x_drp 7 ?_)
    exact kk S2 T1 X1 ⟨c6, hX1⟩
  refine x_aload_n 1 g dL_law_1224 rfl rfl ?_
  refine x_arg g hs (j := 1) rfl rfl rfl (by omega) dL_law_1225 dL_law_1226 dL_law_1228 dL_law_1229 dL_law_1230 ?_
  refine x_arg g hs (j := 2) rfl rfl rfl (by omega) dL_law_1231 dL_law_1232 dL_law_1234 dL_law_1235 dL_law_1236 ?_
  refine x_arg g hs (j := 3) rfl rfl rfl (by omega) dL_law_1237 dL_law_1238 dL_law_1240 dL_law_1241 dL_law_1242 ?_
  refine x_bool g rfl rfl rfl (p8 := 1251) rfl dL_law_1243 dL_law_1246 dL_law_1247 dL_law_1250 ?_
  refine x_aload_n 3 g dL_law_1251 rfl rfl ?_
  cases res with
  | inr v =>
    obtain ⟨b, S2, e6, c6, ok, t6, v6⟩ := h6 (sr S1 (ao A) 0 v) (hc1.out (gFr.rfl'.r (by simp)))
    refine x_cSW [.int 0] g (k_L_reward h5 hx ho hn) ca_L_reward st_L_reward lm_L_227 (Nat.le_of_ble_eq_true rfl) (Nat.zero_le _) (Nat.zero_le _) rfl rfl (Nat.le_of_ble_eq_true rfl) dL_law_1252 rfl ?_
    refine x_istore g dL_law_1255 (Nat.le_of_ble_eq_true rfl) rfl ?_
    refine x_less (c1 := c0) (s1 := s0) (by omega) (by omega) ?_
    exact rest 0 _ S2 b e6 c6 t6 (fun _ => ((ok.1 0).trans (gr_sr_at.trans (if_pos rfl))).trans v6.symm)
  | inl E =>
    obtain ⟨b, S2, e6, c6, ok, n, hi, t6⟩ := h6 _ hc1
    rcases n with _ | n
    · have hi : some "java/lang/IllegalArgumentException" = some E := hi
      cases hi
      refine x_cSW [.int 1] g (t_L_reward_1 h5 hx) ca_L_reward st_L_reward lm_L_227 (Nat.le_of_ble_eq_true rfl) (by omega) (by omega) rfl rfl (Nat.le_of_ble_eq_true rfl) dL_law_1252 rfl ?_
      refine x_istore g dL_law_1255 (Nat.le_of_ble_eq_true rfl) rfl ?_
      refine x_less (c1 := c0) (s1 := s0) (by omega) (by omega) ?_
      exact rest 1 _ S2 b e6 c6 t6 (fun z => absurd z (by decide))
    · have hi : (none : Option String) = some E := hi
      cases hi
set_option maxRecDepth 100000 in
theorem cs_17 (g : Gd K RL cL_law 1475) (hs : gScr K scr L xs) (hfl : flOk) (h : wR G S T A N X) (hN : N + 40000 ≤ 2 ^ 30) (hij : i + 5 ≤ L) (kk : ∀ S' T' X', wR G S' T' A (N + 40000) X' → Xj K [] G 3276 (lvL scr (ax A) (am A) (ao A) (aoD A) i) [] S' T' c0 s0) : Xj K [] G 1320 (lvL scr (ax A) (am A) (ao A) (aoD A) i) [] S T (c0 + 8) (s0 + 400) := by
  obtain ⟨hx, hm, ho, hn, hoD, hnD⟩ := h.o
  obtain ⟨res, S1, T1, X1, h5, hX1, hc1, h6⟩ := (x_should h (xs (i + 1)) (xs (i + 2))).step h
  obtain ⟨h5, rfl, rfl⟩ := h5
  have rest : ∀ (kv : Int32) (S3 S2 : gS) (b : Bool), f_X6_shouldOpen G (am A) (xs (i + 1)) (xs (i + 2)) S3 = some (b, S2) → wC G S2 T1 A X1 X1 → gI S2 30 (am A) = kv → (kv = 0 → gr S2 (ao A) 0 = gz b) → Xj K [] G 1339 ((lvL scr (ax A) (am A) (ao A) (aoD A) i).set 6 (some (.int kv))) [] S3 T1 c0 s0 := by
    intro kv S3 S2 b e6 c6 t6 v6
    refine x_aload_n 2 g dL_law_1339 rfl rfl ?_
    refine x_arg g hs (j := 1) rfl rfl rfl (by omega) dL_law_1340 dL_law_1341 dL_law_1343 dL_law_1344 dL_law_1345 ?_
    refine x_arg g hs (j := 2) rfl rfl rfl (by omega) dL_law_1346 dL_law_1347 dL_law_1349 dL_law_1350 dL_law_1351 ?_
    refine x_cV [.int (gz b)] g (k_X6_shouldOpen e6) ca_X6_shouldOpen in_X6_shouldOpen se_X6_shouldOpen lm_L_233 gXX6 hm (Nat.le_of_ble_eq_true rfl) rfl rfl (Nat.le_of_ble_eq_true rfl) dL_law_1352 rfl ?_
    refine x_istore g dL_law_1355 (Nat.le_of_ble_eq_true rfl) rfl ?_
    refine x_tailB g (by decide) hm ho hn rfl rfl rfl rfl t6 v6 (by decide) dL_law_1357 dL_law_1358 dL_law_1361 dL_law_1363 dL_law_1368 dL_law_1370 dL_law_1373 dL_law_1374 dL_law_1375 dL_law_1376 dL_law_1378 dL_law_1381 dL_law_1382 dL_law_1385 dL_law_1386 dL_law_1387 dL_law_1392 ?_
    refine x_drp 6 (x_drp 7 ?_)
    exact kk S2 T1 X1 ⟨c6, hX1⟩
  refine x_aload_n 1 g dL_law_1320 rfl rfl ?_
  refine x_arg g hs (j := 1) rfl rfl rfl (by omega) dL_law_1321 dL_law_1322 dL_law_1324 dL_law_1325 dL_law_1326 ?_
  refine x_arg g hs (j := 2) rfl rfl rfl (by omega) dL_law_1327 dL_law_1328 dL_law_1330 dL_law_1331 dL_law_1332 ?_
  refine x_aload_n 3 g dL_law_1333 rfl rfl ?_
  cases res with
  | inr v =>
    obtain ⟨b, S2, e6, c6, ok, t6, v6⟩ := h6 (sr S1 (ao A) 0 (gz v)) (hc1.out (gFr.rfl'.r (by simp)))
    refine x_cSW [.int 0] g (k_L_shouldOpen h5 hx ho hn) ca_L_shouldOpen st_L_shouldOpen lm_L_231 (Nat.le_of_ble_eq_true rfl) (Nat.zero_le _) (Nat.zero_le _) rfl rfl (Nat.le_of_ble_eq_true rfl) dL_law_1334 rfl ?_
    refine x_istore g dL_law_1337 (Nat.le_of_ble_eq_true rfl) rfl ?_
    refine x_less (c1 := c0) (s1 := s0) (by omega) (by omega) ?_
    exact rest 0 _ S2 b e6 c6 t6 (fun _ => ((ok.1 0).trans (gr_sr_at.trans (if_pos rfl))).trans (congrArg gz v6.symm))
  | inl E =>
    obtain ⟨b, S2, e6, c6, ok, n, hi, t6⟩ := h6 _ hc1
    rcases n with _ | n
    · have hi : some "java/lang/IllegalArgumentException" = some E := hi
      cases hi
      refine x_cSW [.int 1] g (t_L_shouldOpen_1 h5 hx) ca_L_shouldOpen st_L_shouldOpen lm_L_231 (Nat.le_of_ble_eq_true rfl) (by omega) (by omega) rfl rfl (Nat.le_of_ble_eq_true rfl) dL_law_1334 rfl ?_
      refine x_istore g dL_law_1337 (Nat.le_of_ble_eq_true rfl) rfl ?_
      refine x_less (c1 := c0) (s1 := s0) (by omega) (by omega) ?_
      exact rest 1 _ S2 b e6 c6 t6 (fun z => absurd z (by decide))
    · have hi : (none : Option String) = some E := hi
      cases hi
set_option maxRecDepth 100000 in
theorem cs_18 (g : Gd K RL cL_law 1475) (hs : gScr K scr L xs) (hfl : flOk) (h : wR G S T A N X) (hN : N + 40000 ≤ 2 ^ 30) (hij : i + 5 ≤ L) (kk : ∀ S' T' X', wR G S' T' A (N + 40000) X' → Xj K [] G 3276 (lvL scr (ax A) (am A) (ao A) (aoD A) i) [] S' T' c0 s0) : Xj K [] G 1395 (lvL scr (ax A) (am A) (ao A) (aoD A) i) [] S T (c0 + 8) (s0 + 400) := by
  obtain ⟨hx, hm, ho, hn, hoD, hnD⟩ := h.o
  obtain ⟨res, S1, T1, X1, h5, hX1, hc1, h6⟩ := (x_would h (xs (i + 1)) (xs (i + 2)) (xs (i + 3))).step h
  obtain ⟨h5, rfl, rfl⟩ := h5
  have rest : ∀ (kv : Int32) (S3 S2 : gS) (b : Bool), f_X6_wouldOpen G (am A) (xs (i + 1)) (xs (i + 2)) (xs (i + 3)) S3 = some (b, S2) → wC G S2 T1 A X1 X1 → gI S2 30 (am A) = kv → (kv = 0 → gr S2 (ao A) 0 = gz b) → Xj K [] G 1420 ((lvL scr (ax A) (am A) (ao A) (aoD A) i).set 6 (some (.int kv))) [] S3 T1 c0 s0 := by
    intro kv S3 S2 b e6 c6 t6 v6
    refine x_aload_n 2 g dL_law_1420 rfl rfl ?_
    refine x_arg g hs (j := 1) rfl rfl rfl (by omega) dL_law_1421 dL_law_1422 dL_law_1424 dL_law_1425 dL_law_1426 ?_
    refine x_arg g hs (j := 2) rfl rfl rfl (by omega) dL_law_1427 dL_law_1428 dL_law_1430 dL_law_1431 dL_law_1432 ?_
    refine x_arg g hs (j := 3) rfl rfl rfl (by omega) dL_law_1433 dL_law_1434 dL_law_1436 dL_law_1437 dL_law_1438 ?_
    refine x_cV [.int (gz b)] g (k_X6_wouldOpen e6) ca_X6_wouldOpen in_X6_wouldOpen se_X6_wouldOpen lm_L_237 gXX6 hm (Nat.le_of_ble_eq_true rfl) rfl rfl (Nat.le_of_ble_eq_true rfl) dL_law_1439 rfl ?_
    refine x_istore g dL_law_1442 (Nat.le_of_ble_eq_true rfl) rfl ?_
    refine x_tailB g (by decide) hm ho hn rfl rfl rfl rfl t6 v6 (by decide) dL_law_1444 dL_law_1445 dL_law_1448 dL_law_1450 dL_law_1455 dL_law_1457 dL_law_1460 dL_law_1461 dL_law_1462 dL_law_1463 dL_law_1465 dL_law_1468 dL_law_1469 dL_law_1472 dL_law_1473 dL_law_1474 dL_law_1479 ?_
    refine x_drp 6 (x_drp 7 ?_)
    exact kk S2 T1 X1 ⟨c6, hX1⟩
  refine x_aload_n 1 g dL_law_1395 rfl rfl ?_
  refine x_arg g hs (j := 1) rfl rfl rfl (by omega) dL_law_1396 dL_law_1397 dL_law_1399 dL_law_1400 dL_law_1401 ?_
  refine x_arg g hs (j := 2) rfl rfl rfl (by omega) dL_law_1402 dL_law_1403 dL_law_1405 dL_law_1406 dL_law_1407 ?_
  refine x_arg g hs (j := 3) rfl rfl rfl (by omega) dL_law_1408 dL_law_1409 dL_law_1411 dL_law_1412 dL_law_1413 ?_
  refine x_aload_n 3 g dL_law_1414 rfl rfl ?_
  cases res with
  | inr v =>
    obtain ⟨b, S2, e6, c6, ok, t6, v6⟩ := h6 (sr S1 (ao A) 0 (gz v)) (hc1.out (gFr.rfl'.r (by simp)))
    refine x_cSW [.int 0] g (k_L_wouldOpen h5 hx ho hn) ca_L_wouldOpen st_L_wouldOpen lm_L_234 (Nat.le_of_ble_eq_true rfl) (Nat.zero_le _) (Nat.zero_le _) rfl rfl (Nat.le_of_ble_eq_true rfl) dL_law_1415 rfl ?_
    refine x_istore g dL_law_1418 (Nat.le_of_ble_eq_true rfl) rfl ?_
    refine x_less (c1 := c0) (s1 := s0) (by omega) (by omega) ?_
    exact rest 0 _ S2 b e6 c6 t6 (fun _ => ((ok.1 0).trans (gr_sr_at.trans (if_pos rfl))).trans (congrArg gz v6.symm))
  | inl E =>
    obtain ⟨b, S2, e6, c6, ok, n, hi, t6⟩ := h6 _ hc1
    rcases n with _ | _ | n
    · have hi : some "java/lang/IndexOutOfBoundsException" = some E := hi
      cases hi
      refine x_cSW [.int 1] g (t_L_wouldOpen_1 h5 hx) ca_L_wouldOpen st_L_wouldOpen lm_L_234 (Nat.le_of_ble_eq_true rfl) (by omega) (by omega) rfl rfl (Nat.le_of_ble_eq_true rfl) dL_law_1415 rfl ?_
      refine x_istore g dL_law_1418 (Nat.le_of_ble_eq_true rfl) rfl ?_
      refine x_less (c1 := c0) (s1 := s0) (by omega) (by omega) ?_
      exact rest 1 _ S2 b e6 c6 t6 (fun z => absurd z (by decide))
    · have hi : some "java/lang/IllegalArgumentException" = some E := hi
      cases hi
      refine x_cSW [.int 2] g (t_L_wouldOpen_2 h5 hx) ca_L_wouldOpen st_L_wouldOpen lm_L_234 (Nat.le_of_ble_eq_true rfl) (by omega) (by omega) rfl rfl (Nat.le_of_ble_eq_true rfl) dL_law_1415 rfl ?_
      refine x_istore g dL_law_1418 (Nat.le_of_ble_eq_true rfl) rfl ?_
      refine x_less (c1 := c0) (s1 := s0) (by omega) (by omega) ?_
      exact rest 2 _ S2 b e6 c6 t6 (fun z => absurd z (by decide))
    · have hi : (none : Option String) = some E := hi
      cases hi
set_option maxRecDepth 100000 in
theorem cs_19 (g : Gd K RL cL_law 1475) (hs : gScr K scr L xs) (hfl : flOk) (h : wR G S T A N X) (hN : N + 40000 ≤ 2 ^ 30) (hij : i + 5 ≤ L) (kk : ∀ S' T' X', wR G S' T' A (N + 40000) X' → Xj K [] G 3276 (lvL scr (ax A) (am A) (ao A) (aoD A) i) [] S' T' c0 s0) : Xj K [] G 1482 (lvL scr (ax A) (am A) (ao A) (aoD A) i) [] S T (c0 + 8) (s0 + 400) := by
  obtain ⟨hx, hm, ho, hn, hoD, hnD⟩ := h.o
  obtain ⟨res, S1, T1, X1, h5, hX1, hc1, h6⟩ := (x_explores h (xs (i + 1))).step h
  obtain ⟨h5, rfl, rfl⟩ := h5
  have rest : ∀ (kv : Int32) (S3 S2 : gS) (b : Bool), f_X6_exploresNext G (am A) (xs (i + 1)) S3 = some (b, S2) → wC G S2 T1 A X1 X1 → gI S2 30 (am A) = kv → (kv = 0 → gr S2 (ao A) 0 = gz b) → Xj K [] G 1495 ((lvL scr (ax A) (am A) (ao A) (aoD A) i).set 6 (some (.int kv))) [] S3 T1 c0 s0 := by
    intro kv S3 S2 b e6 c6 t6 v6
    refine x_aload_n 2 g dL_law_1495 rfl rfl ?_
    refine x_arg g hs (j := 1) rfl rfl rfl (by omega) dL_law_1496 dL_law_1497 dL_law_1499 dL_law_1500 dL_law_1501 ?_
    refine x_cV [.int (gz b)] g (k_X6_exploresNext e6) ca_X6_exploresNext in_X6_exploresNext se_X6_exploresNext lm_L_240 gXX6 hm (Nat.le_of_ble_eq_true rfl) rfl rfl (Nat.le_of_ble_eq_true rfl) dL_law_1502 rfl ?_
    refine x_istore g dL_law_1505 (Nat.le_of_ble_eq_true rfl) rfl ?_
    refine x_tailB g (by decide) hm ho hn rfl rfl rfl rfl t6 v6 (by decide) dL_law_1507 dL_law_1508 dL_law_1511 dL_law_1513 dL_law_1518 dL_law_1520 dL_law_1523 dL_law_1524 dL_law_1525 dL_law_1526 dL_law_1528 dL_law_1531 dL_law_1532 dL_law_1535 dL_law_1536 dL_law_1537 dL_law_1542 ?_
    refine x_drp 6 (x_drp 7 ?_)
    exact kk S2 T1 X1 ⟨c6, hX1⟩
  refine x_aload_n 1 g dL_law_1482 rfl rfl ?_
  refine x_arg g hs (j := 1) rfl rfl rfl (by omega) dL_law_1483 dL_law_1484 dL_law_1486 dL_law_1487 dL_law_1488 ?_
  refine x_aload_n 3 g dL_law_1489 rfl rfl ?_
  cases res with
  | inr v =>
    obtain ⟨b, S2, e6, c6, ok, t6, v6⟩ := h6 (sr S1 (ao A) 0 (gz v)) (hc1.out (gFr.rfl'.r (by simp)))
    refine x_cSW [.int 0] g (k_L_exploresNext h5 hx ho hn) ca_L_exploresNext st_L_exploresNext lm_L_238 (Nat.le_of_ble_eq_true rfl) (Nat.zero_le _) (Nat.zero_le _) rfl rfl (Nat.le_of_ble_eq_true rfl) dL_law_1490 rfl ?_
    refine x_istore g dL_law_1493 (Nat.le_of_ble_eq_true rfl) rfl ?_
    refine x_less (c1 := c0) (s1 := s0) (by omega) (by omega) ?_
    exact rest 0 _ S2 b e6 c6 t6 (fun _ => ((ok.1 0).trans (gr_sr_at.trans (if_pos rfl))).trans (congrArg gz v6.symm))
  | inl E =>
    obtain ⟨b, S2, e6, c6, ok, n, hi, t6⟩ := h6 _ hc1
    rcases n with _ | n
    · have hi : some "java/lang/IndexOutOfBoundsException" = some E := hi
      cases hi
      refine x_cSW [.int 1] g (t_L_exploresNext_1 h5 hx) ca_L_exploresNext st_L_exploresNext lm_L_238 (Nat.le_of_ble_eq_true rfl) (by omega) (by omega) rfl rfl (Nat.le_of_ble_eq_true rfl) dL_law_1490 rfl ?_
      refine x_istore g dL_law_1493 (Nat.le_of_ble_eq_true rfl) rfl ?_
      refine x_less (c1 := c0) (s1 := s0) (by omega) (by omega) ?_
      exact rest 1 _ S2 b e6 c6 t6 (fun z => absurd z (by decide))
    · have hi : (none : Option String) = some E := hi
      cases hi
set_option maxRecDepth 100000 in
theorem cs_20 (g : Gd K RL cL_law 1475) (hs : gScr K scr L xs) (hfl : flOk) (h : wR G S T A N X) (hN : N + 40000 ≤ 2 ^ 30) (hij : i + 5 ≤ L) (kk : ∀ S' T' X', wR G S' T' A (N + 40000) X' → Xj K [] G 3276 (lvL scr (ax A) (am A) (ao A) (aoD A) i) [] S' T' c0 s0) : Xj K [] G 1545 (lvL scr (ax A) (am A) (ao A) (aoD A) i) [] S T (c0 + 8) (s0 + 400) := by
  obtain ⟨hx, hm, ho, hn, hoD, hnD⟩ := h.o
  obtain ⟨res, S1, T1, X1, h5, hX1, hc1, h6⟩ := (x_tried h (xs (i + 1)) (xs (i + 2)) (xs (i + 3)) (nz (xs (i + 4)))).step h
  obtain ⟨h5, rfl, rfl⟩ := h5
  have rest : ∀ (kv : Int32) (S3 S2 : gS) (b : Int32), f_X6_timesTried G (am A) (xs (i + 1)) (xs (i + 2)) (xs (i + 3)) (nz (xs (i + 4))) S3 = some (b, S2) → wC G S2 T1 A X1 X1 → gI S2 30 (am A) = kv → (kv = 0 → gr S2 (ao A) 0 = b) → Xj K [] G 1584 ((lvL scr (ax A) (am A) (ao A) (aoD A) i).set 6 (some (.int kv))) [] S3 T1 c0 s0 := by
    intro kv S3 S2 b e6 c6 t6 v6
    refine x_aload_n 2 g dL_law_1584 rfl rfl ?_
    refine x_arg g hs (j := 1) rfl rfl rfl (by omega) dL_law_1585 dL_law_1586 dL_law_1588 dL_law_1589 dL_law_1590 ?_
    refine x_arg g hs (j := 2) rfl rfl rfl (by omega) dL_law_1591 dL_law_1592 dL_law_1594 dL_law_1595 dL_law_1596 ?_
    refine x_arg g hs (j := 3) rfl rfl rfl (by omega) dL_law_1597 dL_law_1598 dL_law_1600 dL_law_1601 dL_law_1602 ?_
    refine x_arg g hs (j := 4) rfl rfl rfl (by omega) dL_law_1603 dL_law_1604 dL_law_1606 dL_law_1607 dL_law_1608 ?_
    refine x_bool g rfl rfl rfl (p8 := 1617) rfl dL_law_1609 dL_law_1612 dL_law_1613 dL_law_1616 ?_
    refine x_cV [.int b] g (k_X6_timesTried e6) ca_X6_timesTried in_X6_timesTried se_X6_timesTried lm_L_244 gXX6 hm (Nat.le_of_ble_eq_true rfl) rfl rfl (Nat.le_of_ble_eq_true rfl) dL_law_1617 rfl ?_
    refine x_istore g dL_law_1620 (Nat.le_of_ble_eq_true rfl) rfl ?_
    refine x_tailI g (by decide) hm ho hn rfl rfl rfl rfl t6 v6 (by decide) dL_law_1622 dL_law_1623 dL_law_1626 dL_law_1628 dL_law_1633 dL_law_1635 dL_law_1638 dL_law_1639 dL_law_1640 dL_law_1641 dL_law_1643 dL_law_1644 dL_law_1645 dL_law_1650 ?_
    refine x_drp 6 (x_drp 7 ?_)
    exact kk S2 T1 X1 ⟨c6, hX1⟩
  refine x_aload_n 1 g dL_law_1545 rfl rfl ?_
  refine x_arg g hs (j := 1) rfl rfl rfl (by omega) dL_law_1546 dL_law_1547 dL_law_1549 dL_law_1550 dL_law_1551 ?_
  refine x_arg g hs (j := 2) rfl rfl rfl (by omega) dL_law_1552 dL_law_1553 dL_law_1555 dL_law_1556 dL_law_1557 ?_
  refine x_arg g hs (j := 3) rfl rfl rfl (by omega) dL_law_1558 dL_law_1559 dL_law_1561 dL_law_1562 dL_law_1563 ?_
  refine x_arg g hs (j := 4) rfl rfl rfl (by omega) dL_law_1564 dL_law_1565 dL_law_1567 dL_law_1568 dL_law_1569 ?_
  refine x_bool g rfl rfl rfl (p8 := 1578) rfl dL_law_1570 dL_law_1573 dL_law_1574 dL_law_1577 ?_
  refine x_aload_n 3 g dL_law_1578 rfl rfl ?_
  cases res with
  | inr v =>
    obtain ⟨b, S2, e6, c6, ok, t6, v6⟩ := h6 (sr S1 (ao A) 0 v) (hc1.out (gFr.rfl'.r (by simp)))
    refine x_cSW [.int 0] g (k_L_timesTried h5 hx ho hn) ca_L_timesTried st_L_timesTried lm_L_241 (Nat.le_of_ble_eq_true rfl) (Nat.zero_le _) (Nat.zero_le _) rfl rfl (Nat.le_of_ble_eq_true rfl) dL_law_1579 rfl ?_
    refine x_istore g dL_law_1582 (Nat.le_of_ble_eq_true rfl) rfl ?_
    refine x_less (c1 := c0) (s1 := s0) (by omega) (by omega) ?_
    exact rest 0 _ S2 b e6 c6 t6 (fun _ => ((ok.1 0).trans (gr_sr_at.trans (if_pos rfl))).trans v6.symm)
  | inl E =>
    obtain ⟨b, S2, e6, c6, ok, n, hi, t6⟩ := h6 _ hc1
    rcases n with _ | _ | n
    · have hi : some "java/lang/IndexOutOfBoundsException" = some E := hi
      cases hi
      refine x_cSW [.int 1] g (t_L_timesTried_1 h5 hx) ca_L_timesTried st_L_timesTried lm_L_241 (Nat.le_of_ble_eq_true rfl) (by omega) (by omega) rfl rfl (Nat.le_of_ble_eq_true rfl) dL_law_1579 rfl ?_
      refine x_istore g dL_law_1582 (Nat.le_of_ble_eq_true rfl) rfl ?_
      refine x_less (c1 := c0) (s1 := s0) (by omega) (by omega) ?_
      exact rest 1 _ S2 b e6 c6 t6 (fun z => absurd z (by decide))
    · have hi : some "java/lang/IllegalArgumentException" = some E := hi
      cases hi
      refine x_cSW [.int 2] g (t_L_timesTried_2 h5 hx) ca_L_timesTried st_L_timesTried lm_L_241 (Nat.le_of_ble_eq_true rfl) (by omega) (by omega) rfl rfl (Nat.le_of_ble_eq_true rfl) dL_law_1579 rfl ?_
      refine x_istore g dL_law_1582 (Nat.le_of_ble_eq_true rfl) rfl ?_
      refine x_less (c1 := c0) (s1 := s0) (by omega) (by omega) ?_
      exact rest 2 _ S2 b e6 c6 t6 (fun z => absurd z (by decide))
    · have hi : (none : Option String) = some E := hi
      cases hi
set_option maxRecDepth 100000 in
theorem cs_21 (g : Gd K RL cL_law 1475) (hs : gScr K scr L xs) (hfl : flOk) (h : wR G S T A N X) (hN : N + 40000 ≤ 2 ^ 30) (hij : i + 5 ≤ L) (kk : ∀ S' T' X', wR G S' T' A (N + 40000) X' → Xj K [] G 3276 (lvL scr (ax A) (am A) (ao A) (aoD A) i) [] S' T' c0 s0) : Xj K [] G 1653 (lvL scr (ax A) (am A) (ao A) (aoD A) i) [] S T (c0 + 8) (s0 + 400) := by
  obtain ⟨hx, hm, ho, hn, hoD, hnD⟩ := h.o
  obtain ⟨res, S1, T1, X1, h5, hX1, hc1, h6⟩ := (x_sumQ h (xs (i + 1)) (xs (i + 2)) (xs (i + 3)) (nz (xs (i + 4)))).step h
  obtain ⟨h5, rfl, rfl⟩ := h5
  have rest : ∀ (kv : Int32) (S3 S2 : gS) (b : Int32), f_X6_rewardSum G (am A) (xs (i + 1)) (xs (i + 2)) (xs (i + 3)) (nz (xs (i + 4))) S3 = some (b, S2) → wC G S2 T1 A X1 X1 → gI S2 30 (am A) = kv → (kv = 0 → gr S2 (ao A) 0 = b) → Xj K [] G 1692 ((lvL scr (ax A) (am A) (ao A) (aoD A) i).set 6 (some (.int kv))) [] S3 T1 c0 s0 := by
    intro kv S3 S2 b e6 c6 t6 v6
    refine x_aload_n 2 g dL_law_1692 rfl rfl ?_
    refine x_arg g hs (j := 1) rfl rfl rfl (by omega) dL_law_1693 dL_law_1694 dL_law_1696 dL_law_1697 dL_law_1698 ?_
    refine x_arg g hs (j := 2) rfl rfl rfl (by omega) dL_law_1699 dL_law_1700 dL_law_1702 dL_law_1703 dL_law_1704 ?_
    refine x_arg g hs (j := 3) rfl rfl rfl (by omega) dL_law_1705 dL_law_1706 dL_law_1708 dL_law_1709 dL_law_1710 ?_
    refine x_arg g hs (j := 4) rfl rfl rfl (by omega) dL_law_1711 dL_law_1712 dL_law_1714 dL_law_1715 dL_law_1716 ?_
    refine x_bool g rfl rfl rfl (p8 := 1725) rfl dL_law_1717 dL_law_1720 dL_law_1721 dL_law_1724 ?_
    refine x_cV [.int b] g (k_X6_rewardSum e6) ca_X6_rewardSum in_X6_rewardSum se_X6_rewardSum lm_L_247 gXX6 hm (Nat.le_of_ble_eq_true rfl) rfl rfl (Nat.le_of_ble_eq_true rfl) dL_law_1725 rfl ?_
    refine x_istore g dL_law_1728 (Nat.le_of_ble_eq_true rfl) rfl ?_
    refine x_tailI g (by decide) hm ho hn rfl rfl rfl rfl t6 v6 (by decide) dL_law_1730 dL_law_1731 dL_law_1734 dL_law_1736 dL_law_1741 dL_law_1743 dL_law_1746 dL_law_1747 dL_law_1748 dL_law_1749 dL_law_1751 dL_law_1752 dL_law_1753 dL_law_1758 ?_
    refine x_drp 6 (x_drp 7 ?_)
    exact kk S2 T1 X1 ⟨c6, hX1⟩
  refine x_aload_n 1 g dL_law_1653 rfl rfl ?_
  refine x_arg g hs (j := 1) rfl rfl rfl (by omega) dL_law_1654 dL_law_1655 dL_law_1657 dL_law_1658 dL_law_1659 ?_
  refine x_arg g hs (j := 2) rfl rfl rfl (by omega) dL_law_1660 dL_law_1661 dL_law_1663 dL_law_1664 dL_law_1665 ?_
  refine x_arg g hs (j := 3) rfl rfl rfl (by omega) dL_law_1666 dL_law_1667 dL_law_1669 dL_law_1670 dL_law_1671 ?_
  refine x_arg g hs (j := 4) rfl rfl rfl (by omega) dL_law_1672 dL_law_1673 dL_law_1675 dL_law_1676 dL_law_1677 ?_
  refine x_bool g rfl rfl rfl (p8 := 1686) rfl dL_law_1678 dL_law_1681 dL_law_1682 dL_law_1685 ?_
  refine x_aload_n 3 g dL_law_1686 rfl rfl ?_
  cases res with
  | inr v =>
    obtain ⟨b, S2, e6, c6, ok, t6, v6⟩ := h6 (sr S1 (ao A) 0 v) (hc1.out (gFr.rfl'.r (by simp)))
    refine x_cSW [.int 0] g (k_L_rewardSum h5 hx ho hn) ca_L_rewardSum st_L_rewardSum lm_L_245 (Nat.le_of_ble_eq_true rfl) (Nat.zero_le _) (Nat.zero_le _) rfl rfl (Nat.le_of_ble_eq_true rfl) dL_law_1687 rfl ?_
    refine x_istore g dL_law_1690 (Nat.le_of_ble_eq_true rfl) rfl ?_
    refine x_less (c1 := c0) (s1 := s0) (by omega) (by omega) ?_
    exact rest 0 _ S2 b e6 c6 t6 (fun _ => ((ok.1 0).trans (gr_sr_at.trans (if_pos rfl))).trans v6.symm)
  | inl E =>
    obtain ⟨b, S2, e6, c6, ok, n, hi, t6⟩ := h6 _ hc1
    rcases n with _ | _ | n
    · have hi : some "java/lang/IndexOutOfBoundsException" = some E := hi
      cases hi
      refine x_cSW [.int 1] g (t_L_rewardSum_1 h5 hx) ca_L_rewardSum st_L_rewardSum lm_L_245 (Nat.le_of_ble_eq_true rfl) (by omega) (by omega) rfl rfl (Nat.le_of_ble_eq_true rfl) dL_law_1687 rfl ?_
      refine x_istore g dL_law_1690 (Nat.le_of_ble_eq_true rfl) rfl ?_
      refine x_less (c1 := c0) (s1 := s0) (by omega) (by omega) ?_
      exact rest 1 _ S2 b e6 c6 t6 (fun z => absurd z (by decide))
    · have hi : some "java/lang/IllegalArgumentException" = some E := hi
      cases hi
      refine x_cSW [.int 2] g (t_L_rewardSum_2 h5 hx) ca_L_rewardSum st_L_rewardSum lm_L_245 (Nat.le_of_ble_eq_true rfl) (by omega) (by omega) rfl rfl (Nat.le_of_ble_eq_true rfl) dL_law_1687 rfl ?_
      refine x_istore g dL_law_1690 (Nat.le_of_ble_eq_true rfl) rfl ?_
      refine x_less (c1 := c0) (s1 := s0) (by omega) (by omega) ?_
      exact rest 2 _ S2 b e6 c6 t6 (fun z => absurd z (by decide))
    · have hi : (none : Option String) = some E := hi
      cases hi
set_option maxRecDepth 100000 in
theorem cs_22 (g : Gd K RL cL_law 1475) (hs : gScr K scr L xs) (hfl : flOk) (h : wR G S T A N X) (hN : N + 40000 ≤ 2 ^ 30) (hij : i + 5 ≤ L) (kk : ∀ S' T' X', wR G S' T' A (N + 40000) X' → Xj K [] G 3276 (lvL scr (ax A) (am A) (ao A) (aoD A) i) [] S' T' c0 s0) : Xj K [] G 1761 (lvL scr (ax A) (am A) (ao A) (aoD A) i) [] S T (c0 + 8) (s0 + 400) := by
  obtain ⟨hx, hm, ho, hn, hoD, hnD⟩ := h.o
  obtain ⟨res, S1, T1, X1, h5, hX1, hc1, h6⟩ := (x_sumT h (xs (i + 1)) (xs (i + 2)) (xs (i + 3)) (nz (xs (i + 4)))).step h
  obtain ⟨h5, rfl, rfl⟩ := h5
  have rest : ∀ (kv : Int32) (S3 S2 : gS) (b : Int32), f_X6_rewardSumByTrials G (am A) (xs (i + 1)) (xs (i + 2)) (xs (i + 3)) (nz (xs (i + 4))) S3 = some (b, S2) → wC G S2 T1 A X1 X1 → gI S2 30 (am A) = kv → (kv = 0 → gr S2 (ao A) 0 = b) → Xj K [] G 1800 ((lvL scr (ax A) (am A) (ao A) (aoD A) i).set 6 (some (.int kv))) [] S3 T1 c0 s0 := by
    intro kv S3 S2 b e6 c6 t6 v6
    refine x_aload_n 2 g dL_law_1800 rfl rfl ?_
    refine x_arg g hs (j := 1) rfl rfl rfl (by omega) dL_law_1801 dL_law_1802 dL_law_1804 dL_law_1805 dL_law_1806 ?_
    refine x_arg g hs (j := 2) rfl rfl rfl (by omega) dL_law_1807 dL_law_1808 dL_law_1810 dL_law_1811 dL_law_1812 ?_
    refine x_arg g hs (j := 3) rfl rfl rfl (by omega) dL_law_1813 dL_law_1814 dL_law_1816 dL_law_1817 dL_law_1818 ?_
    refine x_arg g hs (j := 4) rfl rfl rfl (by omega) dL_law_1819 dL_law_1820 dL_law_1822 dL_law_1823 dL_law_1824 ?_
    refine x_bool g rfl rfl rfl (p8 := 1833) rfl dL_law_1825 dL_law_1828 dL_law_1829 dL_law_1832 ?_
    refine x_cV [.int b] g (k_X6_rewardSumByTrials e6) ca_X6_rewardSumByTrials in_X6_rewardSumByTrials se_X6_rewardSumByTrials lm_L_250 gXX6 hm (Nat.le_of_ble_eq_true rfl) rfl rfl (Nat.le_of_ble_eq_true rfl) dL_law_1833 rfl ?_
    refine x_istore g dL_law_1836 (Nat.le_of_ble_eq_true rfl) rfl ?_
    refine x_tailI g (by decide) hm ho hn rfl rfl rfl rfl t6 v6 (by decide) dL_law_1838 dL_law_1839 dL_law_1842 dL_law_1844 dL_law_1849 dL_law_1851 dL_law_1854 dL_law_1855 dL_law_1856 dL_law_1857 dL_law_1859 dL_law_1860 dL_law_1861 dL_law_1866 ?_
    refine x_drp 6 (x_drp 7 ?_)
    exact kk S2 T1 X1 ⟨c6, hX1⟩
  refine x_aload_n 1 g dL_law_1761 rfl rfl ?_
  refine x_arg g hs (j := 1) rfl rfl rfl (by omega) dL_law_1762 dL_law_1763 dL_law_1765 dL_law_1766 dL_law_1767 ?_
  refine x_arg g hs (j := 2) rfl rfl rfl (by omega) dL_law_1768 dL_law_1769 dL_law_1771 dL_law_1772 dL_law_1773 ?_
  refine x_arg g hs (j := 3) rfl rfl rfl (by omega) dL_law_1774 dL_law_1775 dL_law_1777 dL_law_1778 dL_law_1779 ?_
  refine x_arg g hs (j := 4) rfl rfl rfl (by omega) dL_law_1780 dL_law_1781 dL_law_1783 dL_law_1784 dL_law_1785 ?_
  refine x_bool g rfl rfl rfl (p8 := 1794) rfl dL_law_1786 dL_law_1789 dL_law_1790 dL_law_1793 ?_
  refine x_aload_n 3 g dL_law_1794 rfl rfl ?_
  cases res with
  | inr v =>
    obtain ⟨b, S2, e6, c6, ok, t6, v6⟩ := h6 (sr S1 (ao A) 0 v) (hc1.out (gFr.rfl'.r (by simp)))
    refine x_cSW [.int 0] g (k_L_rewardSumByTrials h5 hx ho hn) ca_L_rewardSumByTrials st_L_rewardSumByTrials lm_L_248 (Nat.le_of_ble_eq_true rfl) (Nat.zero_le _) (Nat.zero_le _) rfl rfl (Nat.le_of_ble_eq_true rfl) dL_law_1795 rfl ?_
    refine x_istore g dL_law_1798 (Nat.le_of_ble_eq_true rfl) rfl ?_
    refine x_less (c1 := c0) (s1 := s0) (by omega) (by omega) ?_
    exact rest 0 _ S2 b e6 c6 t6 (fun _ => ((ok.1 0).trans (gr_sr_at.trans (if_pos rfl))).trans v6.symm)
  | inl E =>
    obtain ⟨b, S2, e6, c6, ok, n, hi, t6⟩ := h6 _ hc1
    rcases n with _ | _ | n
    · have hi : some "java/lang/IndexOutOfBoundsException" = some E := hi
      cases hi
      refine x_cSW [.int 1] g (t_L_rewardSumByTrials_1 h5 hx) ca_L_rewardSumByTrials st_L_rewardSumByTrials lm_L_248 (Nat.le_of_ble_eq_true rfl) (by omega) (by omega) rfl rfl (Nat.le_of_ble_eq_true rfl) dL_law_1795 rfl ?_
      refine x_istore g dL_law_1798 (Nat.le_of_ble_eq_true rfl) rfl ?_
      refine x_less (c1 := c0) (s1 := s0) (by omega) (by omega) ?_
      exact rest 1 _ S2 b e6 c6 t6 (fun z => absurd z (by decide))
    · have hi : some "java/lang/IllegalArgumentException" = some E := hi
      cases hi
      refine x_cSW [.int 2] g (t_L_rewardSumByTrials_2 h5 hx) ca_L_rewardSumByTrials st_L_rewardSumByTrials lm_L_248 (Nat.le_of_ble_eq_true rfl) (by omega) (by omega) rfl rfl (Nat.le_of_ble_eq_true rfl) dL_law_1795 rfl ?_
      refine x_istore g dL_law_1798 (Nat.le_of_ble_eq_true rfl) rfl ?_
      refine x_less (c1 := c0) (s1 := s0) (by omega) (by omega) ?_
      exact rest 2 _ S2 b e6 c6 t6 (fun z => absurd z (by decide))
    · have hi : (none : Option String) = some E := hi
      cases hi
set_option maxRecDepth 100000 in
theorem cs_23 (g : Gd K RL cL_law 1475) (hs : gScr K scr L xs) (hfl : flOk) (h : wR G S T A N X) (hN : N + 40000 ≤ 2 ^ 30) (hij : i + 5 ≤ L) (kk : ∀ S' T' X', wR G S' T' A (N + 40000) X' → Xj K [] G 3276 (lvL scr (ax A) (am A) (ao A) (aoD A) i) [] S' T' c0 s0) : Xj K [] G 1869 (lvL scr (ax A) (am A) (ao A) (aoD A) i) [] S T (c0 + 8) (s0 + 400) := by
  obtain ⟨hx, hm, ho, hn, hoD, hnD⟩ := h.o
  obtain ⟨res, S1, T1, X1, h5, hX1, hc1, h6⟩ := (x_mean hfl h (xs (i + 1)) (xs (i + 2)) (xs (i + 3)) (nz (xs (i + 4)))).step h
  obtain ⟨h5, rfl, rfl⟩ := h5
  have rest : ∀ (kv : Int32) (S3 S2 : gS) (b : UInt64), f_X6_meanReward G (am A) (xs (i + 1)) (xs (i + 2)) (xs (i + 3)) (nz (xs (i + 4))) S3 = some (b, S2) → wC G S2 T1 A X1 X1 → gI S2 30 (am A) = kv → (kv = 0 → ggd S2 (aoD A) = b) → Xj K [] G 1909 ((lvL scr (ax A) (am A) (ao A) (aoD A) i).set 6 (some (.int kv))) [] S3 T1 c0 s0 := by
    intro kv S3 S2 b e6 c6 t6 v6
    refine x_aload_n 2 g dL_law_1909 rfl rfl ?_
    refine x_arg g hs (j := 1) rfl rfl rfl (by omega) dL_law_1910 dL_law_1911 dL_law_1913 dL_law_1914 dL_law_1915 ?_
    refine x_arg g hs (j := 2) rfl rfl rfl (by omega) dL_law_1916 dL_law_1917 dL_law_1919 dL_law_1920 dL_law_1921 ?_
    refine x_arg g hs (j := 3) rfl rfl rfl (by omega) dL_law_1922 dL_law_1923 dL_law_1925 dL_law_1926 dL_law_1927 ?_
    refine x_arg g hs (j := 4) rfl rfl rfl (by omega) dL_law_1928 dL_law_1929 dL_law_1931 dL_law_1932 dL_law_1933 ?_
    refine x_bool g rfl rfl rfl (p8 := 1942) rfl dL_law_1934 dL_law_1937 dL_law_1938 dL_law_1941 ?_
    refine x_cV [.double b] g (k_X6_meanReward e6) ca_X6_meanReward in_X6_meanReward se_X6_meanReward lm_L_254 gXX6 hm (Nat.le_of_ble_eq_true rfl) rfl rfl (Nat.le_of_ble_eq_true rfl) dL_law_1942 rfl ?_
    refine x_dstore g dL_law_1945 (Nat.le_of_ble_eq_true rfl) rfl ?_
    refine x_tailD g (by decide) hm hoD hnD rfl rfl rfl rfl t6 v6 (by decide) dL_law_1947 dL_law_1948 dL_law_1951 dL_law_1953 dL_law_1958 dL_law_1960 dL_law_1963 dL_law_1965 dL_law_1966 dL_law_1967 dL_law_1969 dL_law_1970 dL_law_1973 dL_law_1975 dL_law_1976 dL_law_1977 dL_law_1979 dL_law_1980 dL_law_1981 dL_law_1982 dL_law_1985 dL_law_1987 dL_law_1989 dL_law_1990 dL_law_1995 ?_
    refine x_drp 6 (x_drp 7 ?_)
    exact kk S2 T1 X1 ⟨c6, hX1⟩
  refine x_aload_n 1 g dL_law_1869 rfl rfl ?_
  refine x_arg g hs (j := 1) rfl rfl rfl (by omega) dL_law_1870 dL_law_1871 dL_law_1873 dL_law_1874 dL_law_1875 ?_
  refine x_arg g hs (j := 2) rfl rfl rfl (by omega) dL_law_1876 dL_law_1877 dL_law_1879 dL_law_1880 dL_law_1881 ?_
  refine x_arg g hs (j := 3) rfl rfl rfl (by omega) dL_law_1882 dL_law_1883 dL_law_1885 dL_law_1886 dL_law_1887 ?_
  refine x_arg g hs (j := 4) rfl rfl rfl (by omega) dL_law_1888 dL_law_1889 dL_law_1891 dL_law_1892 dL_law_1893 ?_
  refine x_bool g rfl rfl rfl (p8 := 1902) rfl dL_law_1894 dL_law_1897 dL_law_1898 dL_law_1901 ?_
  refine x_aload g dL_law_1902 rfl ?_
  cases res with
  | inr v =>
    obtain ⟨b, S2, e6, c6, ok, t6, v6⟩ := h6 (gsd S1 (aoD A) v) (hc1.out (gFr.rfl'.row (by simp)))
    refine x_cSW [.int 0] g (k_L_meanReward h5 hx hoD hnD) ca_L_meanReward st_L_meanReward lm_L_251 (Nat.le_of_ble_eq_true rfl) (Nat.zero_le _) (Nat.zero_le _) rfl rfl (Nat.le_of_ble_eq_true rfl) dL_law_1904 rfl ?_
    refine x_istore g dL_law_1907 (Nat.le_of_ble_eq_true rfl) rfl ?_
    refine x_less (c1 := c0) (s1 := s0) (by omega) (by omega) ?_
    exact rest 0 _ S2 b e6 c6 t6 (fun _ => (ggd_ok ok).trans v6.symm)
  | inl E =>
    obtain ⟨b, S2, e6, c6, ok, n, hi, t6⟩ := h6 _ hc1
    rcases n with _ | _ | _ | n
    · have hi : some "java/lang/IndexOutOfBoundsException" = some E := hi
      cases hi
      refine x_cSW [.int 1] g (t_L_meanReward_1 h5 hx) ca_L_meanReward st_L_meanReward lm_L_251 (Nat.le_of_ble_eq_true rfl) (by omega) (by omega) rfl rfl (Nat.le_of_ble_eq_true rfl) dL_law_1904 rfl ?_
      refine x_istore g dL_law_1907 (Nat.le_of_ble_eq_true rfl) rfl ?_
      refine x_less (c1 := c0) (s1 := s0) (by omega) (by omega) ?_
      exact rest 1 _ S2 b e6 c6 t6 (fun z => absurd z (by decide))
    · have hi : some "java/lang/IllegalArgumentException" = some E := hi
      cases hi
      refine x_cSW [.int 2] g (t_L_meanReward_2 h5 hx) ca_L_meanReward st_L_meanReward lm_L_251 (Nat.le_of_ble_eq_true rfl) (by omega) (by omega) rfl rfl (Nat.le_of_ble_eq_true rfl) dL_law_1904 rfl ?_
      refine x_istore g dL_law_1907 (Nat.le_of_ble_eq_true rfl) rfl ?_
      refine x_less (c1 := c0) (s1 := s0) (by omega) (by omega) ?_
      exact rest 2 _ S2 b e6 c6 t6 (fun z => absurd z (by decide))
    · have hi : some "java/util/NoSuchElementException" = some E := hi
      cases hi
      refine x_cSW [.int 3] g (t_L_meanReward_3 h5 hx) ca_L_meanReward st_L_meanReward lm_L_251 (Nat.le_of_ble_eq_true rfl) (by omega) (by omega) rfl rfl (Nat.le_of_ble_eq_true rfl) dL_law_1904 rfl ?_
      refine x_istore g dL_law_1907 (Nat.le_of_ble_eq_true rfl) rfl ?_
      refine x_less (c1 := c0) (s1 := s0) (by omega) (by omega) ?_
      exact rest 3 _ S2 b e6 c6 t6 (fun z => absurd z (by decide))
    · have hi : (none : Option String) = some E := hi
      cases hi
end CASE2
