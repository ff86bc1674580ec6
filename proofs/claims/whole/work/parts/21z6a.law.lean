/-! the law's cases 0 to 7 (laid by wip/whole/mkcase.py) -/
section CASE0
variable {K : gKx} {G : gG} {S : gS} {T : gT} {A : aW} {N : Nat} {X : mX} {c0 s0 scr L i : Nat} {xs : Nat → Int32}
set_option maxRecDepth 100000 in
theorem cs_0 (g : Gd K RL cL_law 1475) (hs : gScr K scr L xs) (hfl : flOk) (h : wR G S T A N X) (hN : N + 40000 ≤ 2 ^ 30) (hij : i + 5 ≤ L) (kk : ∀ S' T' X', wR G S' T' A (N + 40000) X' → Xj K [] G 3276 (lvL scr (ax A) (am A) (ao A) (aoD A) i) [] S' T' c0 s0) : Xj K [] G 268 (lvL scr (ax A) (am A) (ao A) (aoD A) i) [] S T (c0 + 8) (s0 + 400) := by
  obtain ⟨hx, hm, ho, hn, hoD, hnD⟩ := h.o
  obtain ⟨res, S1, T1, X1, h5, hX1, hc1, h6⟩ := x_add h hN (xs (i + 1))
  obtain ⟨h5, rfl⟩ := h5
  have rest : ∀ (kv : Int32) (S3 S2 : gS) (b : Int32), f_X6_addUmbrella G (am A) (xs (i + 1)) S3 = some (b, S2) → wC G S2 T1 A X1 X1 → gI S2 30 (am A) = kv → (kv = 0 → gr S2 (ao A) 0 = b) → Xj K [] G 281 ((lvL scr (ax A) (am A) (ao A) (aoD A) i).set 6 (some (.int kv))) [] S3 T1 c0 s0 := by
    intro kv S3 S2 b e6 c6 t6 v6
    refine x_aload_n 2 g dL_law_281 rfl rfl ?_
    refine x_arg g hs (j := 1) rfl rfl rfl (by omega) dL_law_282 dL_law_283 dL_law_285 dL_law_286 dL_law_287 ?_
    refine x_cV [.int b] g (k_X6_addUmbrella e6) ca_X6_addUmbrella in_X6_addUmbrella se_X6_addUmbrella lm_L_174 gXX6 hm (Nat.le_of_ble_eq_true rfl) rfl rfl (Nat.le_of_ble_eq_true rfl) dL_law_288 rfl ?_
    refine x_istore g dL_law_291 (Nat.le_of_ble_eq_true rfl) rfl ?_
    refine x_tailI g (by decide) hm ho hn rfl rfl rfl rfl t6 v6 (by decide) dL_law_293 dL_law_294 dL_law_297 dL_law_299 dL_law_304 dL_law_306 dL_law_309 dL_law_310 dL_law_311 dL_law_312 dL_law_314 dL_law_315 dL_law_316 dL_law_321 ?_
    refine x_drp 6 (x_drp 7 ?_)
    exact kk S2 T1 X1 ⟨c6, hX1⟩
  refine x_aload_n 1 g dL_law_268 rfl rfl ?_
  refine x_arg g hs (j := 1) rfl rfl rfl (by omega) dL_law_269 dL_law_270 dL_law_272 dL_law_273 dL_law_274 ?_
  refine x_aload_n 3 g dL_law_275 rfl rfl ?_
  cases res with
  | inr v =>
    obtain ⟨b, S2, e6, c6, ok, t6, v6⟩ := h6 (sr S1 (ao A) 0 v) (hc1.out (gFr.rfl'.r (by simp)))
    refine x_cSW [.int 0] g (k_L_addUmbrella h5 hx ho hn) ca_L_addUmbrella st_L_addUmbrella lm_L_169 (Nat.le_of_ble_eq_true rfl) (Nat.zero_le _) (Nat.zero_le _) rfl rfl (Nat.le_of_ble_eq_true rfl) dL_law_276 rfl ?_
    refine x_istore g dL_law_279 (Nat.le_of_ble_eq_true rfl) rfl ?_
    refine x_less (c1 := c0) (s1 := s0) (by omega) (by omega) ?_
    exact rest 0 _ S2 b e6 c6 t6 (fun _ => ((ok.1 0).trans (gr_sr_at.trans (if_pos rfl))).trans v6.symm)
  | inl E =>
    obtain ⟨b, S2, e6, c6, ok, n, hi, t6⟩ := h6 _ hc1
    rcases n with _ | _ | n
    · have hi : some "java/lang/IllegalArgumentException" = some E := hi
      cases hi
      refine x_cSW [.int 1] g (t_L_addUmbrella_1 h5 hx) ca_L_addUmbrella st_L_addUmbrella lm_L_169 (Nat.le_of_ble_eq_true rfl) (by omega) (by omega) rfl rfl (Nat.le_of_ble_eq_true rfl) dL_law_276 rfl ?_
      refine x_istore g dL_law_279 (Nat.le_of_ble_eq_true rfl) rfl ?_
      refine x_less (c1 := c0) (s1 := s0) (by omega) (by omega) ?_
      exact rest 1 _ S2 b e6 c6 t6 (fun z => absurd z (by decide))
    · have hi : some "java/lang/IllegalStateException" = some E := hi
      cases hi
      refine x_cSW [.int 2] g (t_L_addUmbrella_2 h5 hx) ca_L_addUmbrella st_L_addUmbrella lm_L_169 (Nat.le_of_ble_eq_true rfl) (by omega) (by omega) rfl rfl (Nat.le_of_ble_eq_true rfl) dL_law_276 rfl ?_
      refine x_istore g dL_law_279 (Nat.le_of_ble_eq_true rfl) rfl ?_
      refine x_less (c1 := c0) (s1 := s0) (by omega) (by omega) ?_
      exact rest 2 _ S2 b e6 c6 t6 (fun z => absurd z (by decide))
    · have hi : (none : Option String) = some E := hi
      cases hi
set_option maxRecDepth 100000 in
theorem cs_1 (g : Gd K RL cL_law 1475) (hs : gScr K scr L xs) (hfl : flOk) (h : wR G S T A N X) (hN : N + 40000 ≤ 2 ^ 30) (hij : i + 5 ≤ L) (kk : ∀ S' T' X', wR G S' T' A (N + 40000) X' → Xj K [] G 3276 (lvL scr (ax A) (am A) (ao A) (aoD A) i) [] S' T' c0 s0) : Xj K [] G 324 (lvL scr (ax A) (am A) (ao A) (aoD A) i) [] S T (c0 + 8) (s0 + 400) := by
  obtain ⟨hx, hm, ho, hn, hoD, hnD⟩ := h.o
  obtain ⟨res, S1, T1, X1, h5, hX1, hc1, h6⟩ := x_train h hN (xs (i + 1)) (xs (i + 2)) (xs (i + 3)) (xs (i + 4))
  obtain ⟨h5, rfl⟩ := h5
  have rest : ∀ (kv : Int32) (S3 S2 : gS) (b : Int32), f_X6_train G (am A) (xs (i + 1)) (xs (i + 2)) (xs (i + 3)) (xs (i + 4)) S3 = some (b, S2) → wC G S2 T1 A X1 X1 → gI S2 30 (am A) = kv → (kv = 0 → gr S2 (ao A) 0 = b) → Xj K [] G 355 ((lvL scr (ax A) (am A) (ao A) (aoD A) i).set 6 (some (.int kv))) [] S3 T1 c0 s0 := by
    intro kv S3 S2 b e6 c6 t6 v6
    refine x_aload_n 2 g dL_law_355 rfl rfl ?_
    refine x_arg g hs (j := 1) rfl rfl rfl (by omega) dL_law_356 dL_law_357 dL_law_359 dL_law_360 dL_law_361 ?_
    refine x_arg g hs (j := 2) rfl rfl rfl (by omega) dL_law_362 dL_law_363 dL_law_365 dL_law_366 dL_law_367 ?_
    refine x_arg g hs (j := 3) rfl rfl rfl (by omega) dL_law_368 dL_law_369 dL_law_371 dL_law_372 dL_law_373 ?_
    refine x_arg g hs (j := 4) rfl rfl rfl (by omega) dL_law_374 dL_law_375 dL_law_377 dL_law_378 dL_law_379 ?_
    refine x_cV [.int b] g (k_X6_train e6) ca_X6_train in_X6_train se_X6_train lm_L_181 gXX6 hm (Nat.le_of_ble_eq_true rfl) rfl rfl (Nat.le_of_ble_eq_true rfl) dL_law_380 rfl ?_
    refine x_istore g dL_law_383 (Nat.le_of_ble_eq_true rfl) rfl ?_
    refine x_tailI g (by decide) hm ho hn rfl rfl rfl rfl t6 v6 (by decide) dL_law_385 dL_law_386 dL_law_389 dL_law_391 dL_law_396 dL_law_398 dL_law_401 dL_law_402 dL_law_403 dL_law_404 dL_law_406 dL_law_407 dL_law_408 dL_law_413 ?_
    refine x_drp 6 (x_drp 7 ?_)
    exact kk S2 T1 X1 ⟨c6, hX1⟩
  refine x_aload_n 1 g dL_law_324 rfl rfl ?_
  refine x_arg g hs (j := 1) rfl rfl rfl (by omega) dL_law_325 dL_law_326 dL_law_328 dL_law_329 dL_law_330 ?_
  refine x_arg g hs (j := 2) rfl rfl rfl (by omega) dL_law_331 dL_law_332 dL_law_334 dL_law_335 dL_law_336 ?_
  refine x_arg g hs (j := 3) rfl rfl rfl (by omega) dL_law_337 dL_law_338 dL_law_340 dL_law_341 dL_law_342 ?_
  refine x_arg g hs (j := 4) rfl rfl rfl (by omega) dL_law_343 dL_law_344 dL_law_346 dL_law_347 dL_law_348 ?_
  refine x_aload_n 3 g dL_law_349 rfl rfl ?_
  cases res with
  | inr v =>
    obtain ⟨b, S2, e6, c6, ok, t6, v6⟩ := h6 (sr S1 (ao A) 0 v) (hc1.out (gFr.rfl'.r (by simp)))
    refine x_cSW [.int 0] g (k_L_train h5 hx ho hn) ca_L_train st_L_train lm_L_178 (Nat.le_of_ble_eq_true rfl) (Nat.zero_le _) (Nat.zero_le _) rfl rfl (Nat.le_of_ble_eq_true rfl) dL_law_350 rfl ?_
    refine x_istore g dL_law_353 (Nat.le_of_ble_eq_true rfl) rfl ?_
    refine x_less (c1 := c0) (s1 := s0) (by omega) (by omega) ?_
    exact rest 0 _ S2 b e6 c6 t6 (fun _ => ((ok.1 0).trans (gr_sr_at.trans (if_pos rfl))).trans v6.symm)
  | inl E =>
    obtain ⟨b, S2, e6, c6, ok, n, hi, t6⟩ := h6 _ hc1
    rcases n with _ | _ | n
    · have hi : some "java/lang/IndexOutOfBoundsException" = some E := hi
      cases hi
      refine x_cSW [.int 1] g (t_L_train_1 h5 hx) ca_L_train st_L_train lm_L_178 (Nat.le_of_ble_eq_true rfl) (by omega) (by omega) rfl rfl (Nat.le_of_ble_eq_true rfl) dL_law_350 rfl ?_
      refine x_istore g dL_law_353 (Nat.le_of_ble_eq_true rfl) rfl ?_
      refine x_less (c1 := c0) (s1 := s0) (by omega) (by omega) ?_
      exact rest 1 _ S2 b e6 c6 t6 (fun z => absurd z (by decide))
    · have hi : some "java/lang/IllegalArgumentException" = some E := hi
      cases hi
      refine x_cSW [.int 2] g (t_L_train_2 h5 hx) ca_L_train st_L_train lm_L_178 (Nat.le_of_ble_eq_true rfl) (by omega) (by omega) rfl rfl (Nat.le_of_ble_eq_true rfl) dL_law_350 rfl ?_
      refine x_istore g dL_law_353 (Nat.le_of_ble_eq_true rfl) rfl ?_
      refine x_less (c1 := c0) (s1 := s0) (by omega) (by omega) ?_
      exact rest 2 _ S2 b e6 c6 t6 (fun z => absurd z (by decide))
    · have hi : (none : Option String) = some E := hi
      cases hi
set_option maxRecDepth 100000 in
theorem cs_2 (g : Gd K RL cL_law 1475) (hs : gScr K scr L xs) (hfl : flOk) (h : wR G S T A N X) (hN : N + 40000 ≤ 2 ^ 30) (hij : i + 5 ≤ L) (kk : ∀ S' T' X', wR G S' T' A (N + 40000) X' → Xj K [] G 3276 (lvL scr (ax A) (am A) (ao A) (aoD A) i) [] S' T' c0 s0) : Xj K [] G 416 (lvL scr (ax A) (am A) (ao A) (aoD A) i) [] S T (c0 + 8) (s0 + 400) := by
  obtain ⟨hx, hm, ho, hn, hoD, hnD⟩ := h.o
  obtain ⟨res, S1, T1, X1, h5, hX1, hc1, h6⟩ := x_period h hN (xs (i + 1)) (xs (i + 2))
  obtain ⟨h5, rfl⟩ := h5
  have rest : ∀ (kv : Int32) (S3 S2 : gS) (b : Int32), f_X6_setPeriod G (am A) (xs (i + 1)) (xs (i + 2)) S3 = some (b, S2) → wC G S2 T1 A X1 X1 → gI S2 30 (am A) = kv → (kv = 0 → gr S2 (ao A) 0 = b) → Xj K [] G 435 ((lvL scr (ax A) (am A) (ao A) (aoD A) i).set 6 (some (.int kv))) [] S3 T1 c0 s0 := by
    intro kv S3 S2 b e6 c6 t6 v6
    refine x_aload_n 2 g dL_law_435 rfl rfl ?_
    refine x_arg g hs (j := 1) rfl rfl rfl (by omega) dL_law_436 dL_law_437 dL_law_439 dL_law_440 dL_law_441 ?_
    refine x_arg g hs (j := 2) rfl rfl rfl (by omega) dL_law_442 dL_law_443 dL_law_445 dL_law_446 dL_law_447 ?_
    refine x_cV [.int b] g (k_X6_setPeriod e6) ca_X6_setPeriod in_X6_setPeriod se_X6_setPeriod lm_L_185 gXX6 hm (Nat.le_of_ble_eq_true rfl) rfl rfl (Nat.le_of_ble_eq_true rfl) dL_law_448 rfl ?_
    refine x_istore g dL_law_451 (Nat.le_of_ble_eq_true rfl) rfl ?_
    refine x_tailI g (by decide) hm ho hn rfl rfl rfl rfl t6 v6 (by decide) dL_law_453 dL_law_454 dL_law_457 dL_law_459 dL_law_464 dL_law_466 dL_law_469 dL_law_470 dL_law_471 dL_law_472 dL_law_474 dL_law_475 dL_law_476 dL_law_481 ?_
    refine x_drp 6 (x_drp 7 ?_)
    exact kk S2 T1 X1 ⟨c6, hX1⟩
  refine x_aload_n 1 g dL_law_416 rfl rfl ?_
  refine x_arg g hs (j := 1) rfl rfl rfl (by omega) dL_law_417 dL_law_418 dL_law_420 dL_law_421 dL_law_422 ?_
  refine x_arg g hs (j := 2) rfl rfl rfl (by omega) dL_law_423 dL_law_424 dL_law_426 dL_law_427 dL_law_428 ?_
  refine x_aload_n 3 g dL_law_429 rfl rfl ?_
  cases res with
  | inr v =>
    obtain ⟨b, S2, e6, c6, ok, t6, v6⟩ := h6 (sr S1 (ao A) 0 v) (hc1.out (gFr.rfl'.r (by simp)))
    refine x_cSW [.int 0] g (k_L_setPeriod h5 hx ho hn) ca_L_setPeriod st_L_setPeriod lm_L_182 (Nat.le_of_ble_eq_true rfl) (Nat.zero_le _) (Nat.zero_le _) rfl rfl (Nat.le_of_ble_eq_true rfl) dL_law_430 rfl ?_
    refine x_istore g dL_law_433 (Nat.le_of_ble_eq_true rfl) rfl ?_
    refine x_less (c1 := c0) (s1 := s0) (by omega) (by omega) ?_
    exact rest 0 _ S2 b e6 c6 t6 (fun _ => ((ok.1 0).trans (gr_sr_at.trans (if_pos rfl))).trans v6.symm)
  | inl E =>
    obtain ⟨b, S2, e6, c6, ok, n, hi, t6⟩ := h6 _ hc1
    rcases n with _ | _ | n
    · have hi : some "java/lang/IndexOutOfBoundsException" = some E := hi
      cases hi
      refine x_cSW [.int 1] g (t_L_setPeriod_1 h5 hx) ca_L_setPeriod st_L_setPeriod lm_L_182 (Nat.le_of_ble_eq_true rfl) (by omega) (by omega) rfl rfl (Nat.le_of_ble_eq_true rfl) dL_law_430 rfl ?_
      refine x_istore g dL_law_433 (Nat.le_of_ble_eq_true rfl) rfl ?_
      refine x_less (c1 := c0) (s1 := s0) (by omega) (by omega) ?_
      exact rest 1 _ S2 b e6 c6 t6 (fun z => absurd z (by decide))
    · have hi : some "java/lang/IllegalArgumentException" = some E := hi
      cases hi
      refine x_cSW [.int 2] g (t_L_setPeriod_2 h5 hx) ca_L_setPeriod st_L_setPeriod lm_L_182 (Nat.le_of_ble_eq_true rfl) (by omega) (by omega) rfl rfl (Nat.le_of_ble_eq_true rfl) dL_law_430 rfl ?_
      refine x_istore g dL_law_433 (Nat.le_of_ble_eq_true rfl) rfl ?_
      refine x_less (c1 := c0) (s1 := s0) (by omega) (by omega) ?_
      exact rest 2 _ S2 b e6 c6 t6 (fun z => absurd z (by decide))
    · have hi : (none : Option String) = some E := hi
      cases hi
set_option maxRecDepth 100000 in
theorem cs_3 (g : Gd K RL cL_law 1475) (hs : gScr K scr L xs) (hfl : flOk) (h : wR G S T A N X) (hN : N + 40000 ≤ 2 ^ 30) (hij : i + 5 ≤ L) (kk : ∀ S' T' X', wR G S' T' A (N + 40000) X' → Xj K [] G 3276 (lvL scr (ax A) (am A) (ao A) (aoD A) i) [] S' T' c0 s0) : Xj K [] G 484 (lvL scr (ax A) (am A) (ao A) (aoD A) i) [] S T (c0 + 8) (s0 + 400) := by
  obtain ⟨hx, hm, ho, hn, hoD, hnD⟩ := h.o
  obtain ⟨res, S1, T1, X1, h5, hX1, hc1, h6⟩ := x_wet h hN (xs (i + 1))
  obtain ⟨h5, rfl⟩ := h5
  have rest : ∀ (kv : Int32) (S3 S2 : gS) (b : Int32), f_X6_setWetPenalty G (am A) (xs (i + 1)) S3 = some (b, S2) → wC G S2 T1 A X1 X1 → gI S2 30 (am A) = kv → (kv = 0 → gr S2 (ao A) 0 = b) → Xj K [] G 497 ((lvL scr (ax A) (am A) (ao A) (aoD A) i).set 6 (some (.int kv))) [] S3 T1 c0 s0 := by
    intro kv S3 S2 b e6 c6 t6 v6
    refine x_aload_n 2 g dL_law_497 rfl rfl ?_
    refine x_arg g hs (j := 1) rfl rfl rfl (by omega) dL_law_498 dL_law_499 dL_law_501 dL_law_502 dL_law_503 ?_
    refine x_cV [.int b] g (k_X6_setWetPenalty e6) ca_X6_setWetPenalty in_X6_setWetPenalty se_X6_setWetPenalty lm_L_188 gXX6 hm (Nat.le_of_ble_eq_true rfl) rfl rfl (Nat.le_of_ble_eq_true rfl) dL_law_504 rfl ?_
    refine x_istore g dL_law_507 (Nat.le_of_ble_eq_true rfl) rfl ?_
    refine x_tailI g (by decide) hm ho hn rfl rfl rfl rfl t6 v6 (by decide) dL_law_509 dL_law_510 dL_law_513 dL_law_515 dL_law_520 dL_law_522 dL_law_525 dL_law_526 dL_law_527 dL_law_528 dL_law_530 dL_law_531 dL_law_532 dL_law_537 ?_
    refine x_drp 6 (x_drp 7 ?_)
    exact kk S2 T1 X1 ⟨c6, hX1⟩
  refine x_aload_n 1 g dL_law_484 rfl rfl ?_
  refine x_arg g hs (j := 1) rfl rfl rfl (by omega) dL_law_485 dL_law_486 dL_law_488 dL_law_489 dL_law_490 ?_
  refine x_aload_n 3 g dL_law_491 rfl rfl ?_
  cases res with
  | inr v =>
    obtain ⟨b, S2, e6, c6, ok, t6, v6⟩ := h6 (sr S1 (ao A) 0 v) (hc1.out (gFr.rfl'.r (by simp)))
    refine x_cSW [.int 0] g (k_L_setWetPenalty h5 hx ho hn) ca_L_setWetPenalty st_L_setWetPenalty lm_L_186 (Nat.le_of_ble_eq_true rfl) (Nat.zero_le _) (Nat.zero_le _) rfl rfl (Nat.le_of_ble_eq_true rfl) dL_law_492 rfl ?_
    refine x_istore g dL_law_495 (Nat.le_of_ble_eq_true rfl) rfl ?_
    refine x_less (c1 := c0) (s1 := s0) (by omega) (by omega) ?_
    exact rest 0 _ S2 b e6 c6 t6 (fun _ => ((ok.1 0).trans (gr_sr_at.trans (if_pos rfl))).trans v6.symm)
  | inl E =>
    obtain ⟨b, S2, e6, c6, ok, n, hi, t6⟩ := h6 _ hc1
    rcases n with _ | n
    · have hi : some "java/lang/IllegalArgumentException" = some E := hi
      cases hi
      refine x_cSW [.int 1] g (t_L_setWetPenalty_1 h5 hx) ca_L_setWetPenalty st_L_setWetPenalty lm_L_186 (Nat.le_of_ble_eq_true rfl) (by omega) (by omega) rfl rfl (Nat.le_of_ble_eq_true rfl) dL_law_492 rfl ?_
      refine x_istore g dL_law_495 (Nat.le_of_ble_eq_true rfl) rfl ?_
      refine x_less (c1 := c0) (s1 := s0) (by omega) (by omega) ?_
      exact rest 1 _ S2 b e6 c6 t6 (fun z => absurd z (by decide))
    · have hi : (none : Option String) = some E := hi
      cases hi
set_option maxRecDepth 100000 in
theorem cs_4 (g : Gd K RL cL_law 1475) (hs : gScr K scr L xs) (hfl : flOk) (h : wR G S T A N X) (hN : N + 40000 ≤ 2 ^ 30) (hij : i + 5 ≤ L) (kk : ∀ S' T' X', wR G S' T' A (N + 40000) X' → Xj K [] G 3276 (lvL scr (ax A) (am A) (ao A) (aoD A) i) [] S' T' c0 s0) : Xj K [] G 540 (lvL scr (ax A) (am A) (ao A) (aoD A) i) [] S T (c0 + 8) (s0 + 400) := by
  obtain ⟨hx, hm, ho, hn, hoD, hnD⟩ := h.o
  obtain ⟨res, S1, T1, X1, h5, hX1, hc1, h6⟩ := x_gale h hN (xs (i + 1))
  obtain ⟨h5, rfl⟩ := h5
  have rest : ∀ (kv : Int32) (S3 S2 : gS) (b : Int32), f_X6_setGalePenalty G (am A) (xs (i + 1)) S3 = some (b, S2) → wC G S2 T1 A X1 X1 → gI S2 30 (am A) = kv → (kv = 0 → gr S2 (ao A) 0 = b) → Xj K [] G 553 ((lvL scr (ax A) (am A) (ao A) (aoD A) i).set 6 (some (.int kv))) [] S3 T1 c0 s0 := by
    intro kv S3 S2 b e6 c6 t6 v6
    refine x_aload_n 2 g dL_law_553 rfl rfl ?_
    refine x_arg g hs (j := 1) rfl rfl rfl (by omega) dL_law_554 dL_law_555 dL_law_557 dL_law_558 dL_law_559 ?_
    refine x_cV [.int b] g (k_X6_setGalePenalty e6) ca_X6_setGalePenalty in_X6_setGalePenalty se_X6_setGalePenalty lm_L_191 gXX6 hm (Nat.le_of_ble_eq_true rfl) rfl rfl (Nat.le_of_ble_eq_true rfl) dL_law_560 rfl ?_
    refine x_istore g dL_law_563 (Nat.le_of_ble_eq_true rfl) rfl ?_
    refine x_tailI g (by decide) hm ho hn rfl rfl rfl rfl t6 v6 (by decide) dL_law_565 dL_law_566 dL_law_569 dL_law_571 dL_law_576 dL_law_578 dL_law_581 dL_law_582 dL_law_583 dL_law_584 dL_law_586 dL_law_587 dL_law_588 dL_law_593 ?_
    refine x_drp 6 (x_drp 7 ?_)
    exact kk S2 T1 X1 ⟨c6, hX1⟩
  refine x_aload_n 1 g dL_law_540 rfl rfl ?_
  refine x_arg g hs (j := 1) rfl rfl rfl (by omega) dL_law_541 dL_law_542 dL_law_544 dL_law_545 dL_law_546 ?_
  refine x_aload_n 3 g dL_law_547 rfl rfl ?_
  cases res with
  | inr v =>
    obtain ⟨b, S2, e6, c6, ok, t6, v6⟩ := h6 (sr S1 (ao A) 0 v) (hc1.out (gFr.rfl'.r (by simp)))
    refine x_cSW [.int 0] g (k_L_setGalePenalty h5 hx ho hn) ca_L_setGalePenalty st_L_setGalePenalty lm_L_189 (Nat.le_of_ble_eq_true rfl) (Nat.zero_le _) (Nat.zero_le _) rfl rfl (Nat.le_of_ble_eq_true rfl) dL_law_548 rfl ?_
    refine x_istore g dL_law_551 (Nat.le_of_ble_eq_true rfl) rfl ?_
    refine x_less (c1 := c0) (s1 := s0) (by omega) (by omega) ?_
    exact rest 0 _ S2 b e6 c6 t6 (fun _ => ((ok.1 0).trans (gr_sr_at.trans (if_pos rfl))).trans v6.symm)
  | inl E =>
    obtain ⟨b, S2, e6, c6, ok, n, hi, t6⟩ := h6 _ hc1
    rcases n with _ | n
    · have hi : some "java/lang/IllegalArgumentException" = some E := hi
      cases hi
      refine x_cSW [.int 1] g (t_L_setGalePenalty_1 h5 hx) ca_L_setGalePenalty st_L_setGalePenalty lm_L_189 (Nat.le_of_ble_eq_true rfl) (by omega) (by omega) rfl rfl (Nat.le_of_ble_eq_true rfl) dL_law_548 rfl ?_
      refine x_istore g dL_law_551 (Nat.le_of_ble_eq_true rfl) rfl ?_
      refine x_less (c1 := c0) (s1 := s0) (by omega) (by omega) ?_
      exact rest 1 _ S2 b e6 c6 t6 (fun z => absurd z (by decide))
    · have hi : (none : Option String) = some E := hi
      cases hi
set_option maxRecDepth 100000 in
theorem cs_5 (g : Gd K RL cL_law 1475) (hs : gScr K scr L xs) (hfl : flOk) (h : wR G S T A N X) (hN : N + 40000 ≤ 2 ^ 30) (hij : i + 5 ≤ L) (kk : ∀ S' T' X', wR G S' T' A (N + 40000) X' → Xj K [] G 3276 (lvL scr (ax A) (am A) (ao A) (aoD A) i) [] S' T' c0 s0) : Xj K [] G 596 (lvL scr (ax A) (am A) (ao A) (aoD A) i) [] S T (c0 + 8) (s0 + 400) := by
  obtain ⟨hx, hm, ho, hn, hoD, hnD⟩ := h.o
  obtain ⟨res, S1, T1, X1, h5, hX1, hc1, h6⟩ := x_forget h hN (xs (i + 1)) (xs (i + 2))
  obtain ⟨h5, rfl⟩ := h5
  have rest : ∀ (kv : Int32) (S3 S2 : gS) (b : Int32), f_X6_forgetRain G (am A) (xs (i + 1)) (xs (i + 2)) S3 = some (b, S2) → wC G S2 T1 A X1 X1 → gI S2 30 (am A) = kv → (kv = 0 → gr S2 (ao A) 0 = b) → Xj K [] G 615 ((lvL scr (ax A) (am A) (ao A) (aoD A) i).set 6 (some (.int kv))) [] S3 T1 c0 s0 := by
    intro kv S3 S2 b e6 c6 t6 v6
    refine x_aload_n 2 g dL_law_615 rfl rfl ?_
    refine x_arg g hs (j := 1) rfl rfl rfl (by omega) dL_law_616 dL_law_617 dL_law_619 dL_law_620 dL_law_621 ?_
    refine x_arg g hs (j := 2) rfl rfl rfl (by omega) dL_law_622 dL_law_623 dL_law_625 dL_law_626 dL_law_627 ?_
    refine x_cV [.int b] g (k_X6_forgetRain e6) ca_X6_forgetRain in_X6_forgetRain se_X6_forgetRain lm_L_194 gXX6 hm (Nat.le_of_ble_eq_true rfl) rfl rfl (Nat.le_of_ble_eq_true rfl) dL_law_628 rfl ?_
    refine x_istore g dL_law_631 (Nat.le_of_ble_eq_true rfl) rfl ?_
    refine x_tailI g (by decide) hm ho hn rfl rfl rfl rfl t6 v6 (by decide) dL_law_633 dL_law_634 dL_law_637 dL_law_639 dL_law_644 dL_law_646 dL_law_649 dL_law_650 dL_law_651 dL_law_652 dL_law_654 dL_law_655 dL_law_656 dL_law_661 ?_
    refine x_drp 6 (x_drp 7 ?_)
    exact kk S2 T1 X1 ⟨c6, hX1⟩
  refine x_aload_n 1 g dL_law_596 rfl rfl ?_
  refine x_arg g hs (j := 1) rfl rfl rfl (by omega) dL_law_597 dL_law_598 dL_law_600 dL_law_601 dL_law_602 ?_
  refine x_arg g hs (j := 2) rfl rfl rfl (by omega) dL_law_603 dL_law_604 dL_law_606 dL_law_607 dL_law_608 ?_
  refine x_aload_n 3 g dL_law_609 rfl rfl ?_
  cases res with
  | inr v =>
    obtain ⟨b, S2, e6, c6, ok, t6, v6⟩ := h6 (sr S1 (ao A) 0 v) (hc1.out (gFr.rfl'.r (by simp)))
    refine x_cSW [.int 0] g (k_L_forgetRain h5 hx ho hn) ca_L_forgetRain st_L_forgetRain lm_L_192 (Nat.le_of_ble_eq_true rfl) (Nat.zero_le _) (Nat.zero_le _) rfl rfl (Nat.le_of_ble_eq_true rfl) dL_law_610 rfl ?_
    refine x_istore g dL_law_613 (Nat.le_of_ble_eq_true rfl) rfl ?_
    refine x_less (c1 := c0) (s1 := s0) (by omega) (by omega) ?_
    exact rest 0 _ S2 b e6 c6 t6 (fun _ => ((ok.1 0).trans (gr_sr_at.trans (if_pos rfl))).trans v6.symm)
  | inl E =>
    obtain ⟨b, S2, e6, c6, ok, n, hi, t6⟩ := h6 _ hc1
    rcases n with _ | _ | n
    · have hi : some "java/lang/IndexOutOfBoundsException" = some E := hi
      cases hi
      refine x_cSW [.int 1] g (t_L_forgetRain_1 h5 hx) ca_L_forgetRain st_L_forgetRain lm_L_192 (Nat.le_of_ble_eq_true rfl) (by omega) (by omega) rfl rfl (Nat.le_of_ble_eq_true rfl) dL_law_610 rfl ?_
      refine x_istore g dL_law_613 (Nat.le_of_ble_eq_true rfl) rfl ?_
      refine x_less (c1 := c0) (s1 := s0) (by omega) (by omega) ?_
      exact rest 1 _ S2 b e6 c6 t6 (fun z => absurd z (by decide))
    · have hi : some "java/lang/IllegalArgumentException" = some E := hi
      cases hi
      refine x_cSW [.int 2] g (t_L_forgetRain_2 h5 hx) ca_L_forgetRain st_L_forgetRain lm_L_192 (Nat.le_of_ble_eq_true rfl) (by omega) (by omega) rfl rfl (Nat.le_of_ble_eq_true rfl) dL_law_610 rfl ?_
      refine x_istore g dL_law_613 (Nat.le_of_ble_eq_true rfl) rfl ?_
      refine x_less (c1 := c0) (s1 := s0) (by omega) (by omega) ?_
      exact rest 2 _ S2 b e6 c6 t6 (fun z => absurd z (by decide))
    · have hi : (none : Option String) = some E := hi
      cases hi
set_option maxRecDepth 100000 in
theorem cs_6 (g : Gd K RL cL_law 1475) (hs : gScr K scr L xs) (hfl : flOk) (h : wR G S T A N X) (hN : N + 40000 ≤ 2 ^ 30) (hij : i + 5 ≤ L) (kk : ∀ S' T' X', wR G S' T' A (N + 40000) X' → Xj K [] G 3276 (lvL scr (ax A) (am A) (ao A) (aoD A) i) [] S' T' c0 s0) : Xj K [] G 664 (lvL scr (ax A) (am A) (ao A) (aoD A) i) [] S T (c0 + 8) (s0 + 400) := by
  obtain ⟨hx, hm, ho, hn, hoD, hnD⟩ := h.o
  obtain ⟨res, S1, T1, X1, h5, hX1, hc1, h6⟩ := x_exam h hN (xs (i + 1)) (xs (i + 2))
  obtain ⟨h5, rfl⟩ := h5
  have rest : ∀ (kv : Int32) (S3 S2 : gS) (b : Int32), f_X6_examine G (am A) (xs (i + 1)) (xs (i + 2)) S3 = some (b, S2) → wC G S2 T1 A X1 X1 → gI S2 30 (am A) = kv → (kv = 0 → gr S2 (ao A) 0 = b) → Xj K [] G 683 ((lvL scr (ax A) (am A) (ao A) (aoD A) i).set 6 (some (.int kv))) [] S3 T1 c0 s0 := by
    intro kv S3 S2 b e6 c6 t6 v6
    refine x_aload_n 2 g dL_law_683 rfl rfl ?_
    refine x_arg g hs (j := 1) rfl rfl rfl (by omega) dL_law_684 dL_law_685 dL_law_687 dL_law_688 dL_law_689 ?_
    refine x_arg g hs (j := 2) rfl rfl rfl (by omega) dL_law_690 dL_law_691 dL_law_693 dL_law_694 dL_law_695 ?_
    refine x_cV [.int b] g (k_X6_examine e6) ca_X6_examine in_X6_examine se_X6_examine lm_L_197 gXX6 hm (Nat.le_of_ble_eq_true rfl) rfl rfl (Nat.le_of_ble_eq_true rfl) dL_law_696 rfl ?_
    refine x_istore g dL_law_699 (Nat.le_of_ble_eq_true rfl) rfl ?_
    refine x_tailI g (by decide) hm ho hn rfl rfl rfl rfl t6 v6 (by decide) dL_law_701 dL_law_702 dL_law_705 dL_law_707 dL_law_712 dL_law_714 dL_law_717 dL_law_718 dL_law_719 dL_law_720 dL_law_722 dL_law_723 dL_law_724 dL_law_729 ?_
    refine x_drp 6 (x_drp 7 ?_)
    exact kk S2 T1 X1 ⟨c6, hX1⟩
  refine x_aload_n 1 g dL_law_664 rfl rfl ?_
  refine x_arg g hs (j := 1) rfl rfl rfl (by omega) dL_law_665 dL_law_666 dL_law_668 dL_law_669 dL_law_670 ?_
  refine x_arg g hs (j := 2) rfl rfl rfl (by omega) dL_law_671 dL_law_672 dL_law_674 dL_law_675 dL_law_676 ?_
  refine x_aload_n 3 g dL_law_677 rfl rfl ?_
  cases res with
  | inr v =>
    obtain ⟨b, S2, e6, c6, ok, t6, v6⟩ := h6 (sr S1 (ao A) 0 v) (hc1.out (gFr.rfl'.r (by simp)))
    refine x_cSW [.int 0] g (k_L_examine h5 hx ho hn) ca_L_examine st_L_examine lm_L_195 (Nat.le_of_ble_eq_true rfl) (Nat.zero_le _) (Nat.zero_le _) rfl rfl (Nat.le_of_ble_eq_true rfl) dL_law_678 rfl ?_
    refine x_istore g dL_law_681 (Nat.le_of_ble_eq_true rfl) rfl ?_
    refine x_less (c1 := c0) (s1 := s0) (by omega) (by omega) ?_
    exact rest 0 _ S2 b e6 c6 t6 (fun _ => ((ok.1 0).trans (gr_sr_at.trans (if_pos rfl))).trans v6.symm)
  | inl E =>
    obtain ⟨b, S2, e6, c6, ok, n, hi, t6⟩ := h6 _ hc1
    rcases n with _ | _ | n
    · have hi : some "java/lang/IndexOutOfBoundsException" = some E := hi
      cases hi
      refine x_cSW [.int 1] g (t_L_examine_1 h5 hx) ca_L_examine st_L_examine lm_L_195 (Nat.le_of_ble_eq_true rfl) (by omega) (by omega) rfl rfl (Nat.le_of_ble_eq_true rfl) dL_law_678 rfl ?_
      refine x_istore g dL_law_681 (Nat.le_of_ble_eq_true rfl) rfl ?_
      refine x_less (c1 := c0) (s1 := s0) (by omega) (by omega) ?_
      exact rest 1 _ S2 b e6 c6 t6 (fun z => absurd z (by decide))
    · have hi : some "java/lang/IllegalArgumentException" = some E := hi
      cases hi
      refine x_cSW [.int 2] g (t_L_examine_2 h5 hx) ca_L_examine st_L_examine lm_L_195 (Nat.le_of_ble_eq_true rfl) (by omega) (by omega) rfl rfl (Nat.le_of_ble_eq_true rfl) dL_law_678 rfl ?_
      refine x_istore g dL_law_681 (Nat.le_of_ble_eq_true rfl) rfl ?_
      refine x_less (c1 := c0) (s1 := s0) (by omega) (by omega) ?_
      exact rest 2 _ S2 b e6 c6 t6 (fun z => absurd z (by decide))
    · have hi : (none : Option String) = some E := hi
      cases hi
set_option maxRecDepth 100000 in
theorem cs_7 (g : Gd K RL cL_law 1475) (hs : gScr K scr L xs) (hfl : flOk) (h : wR G S T A N X) (hN : N + 40000 ≤ 2 ^ 30) (hij : i + 5 ≤ L) (kk : ∀ S' T' X', wR G S' T' A (N + 40000) X' → Xj K [] G 3276 (lvL scr (ax A) (am A) (ao A) (aoD A) i) [] S' T' c0 s0) : Xj K [] G 732 (lvL scr (ax A) (am A) (ao A) (aoD A) i) [] S T (c0 + 8) (s0 + 400) := by
  obtain ⟨hx, hm, ho, hn, hoD, hnD⟩ := h.o
  obtain ⟨res, S1, T1, X1, h5, hX1, hc1, h6⟩ := x_term h hN
  obtain ⟨h5, rfl⟩ := h5
  have rest : ∀ (kv : Int32) (S3 S2 : gS) (b : Int32), f_X6_endTerm G (am A)  S3 = some (b, S2) → wC G S2 T1 A X1 X1 → gI S2 30 (am A) = kv → (kv = 0 → gr S2 (ao A) 0 = b) → Xj K [] G 739 ((lvL scr (ax A) (am A) (ao A) (aoD A) i).set 6 (some (.int kv))) [] S3 T1 c0 s0 := by
    intro kv S3 S2 b e6 c6 t6 v6
    refine x_aload_n 2 g dL_law_739 rfl rfl ?_
    refine x_cV [.int b] g (k_X6_endTerm e6) ca_X6_endTerm in_X6_endTerm se_X6_endTerm lm_L_201 gXX6 hm (Nat.le_of_ble_eq_true rfl) rfl rfl (Nat.le_of_ble_eq_true rfl) dL_law_740 rfl ?_
    refine x_istore g dL_law_743 (Nat.le_of_ble_eq_true rfl) rfl ?_
    refine x_tailI g (by decide) hm ho hn rfl rfl rfl rfl t6 v6 (by decide) dL_law_745 dL_law_746 dL_law_749 dL_law_751 dL_law_756 dL_law_758 dL_law_761 dL_law_762 dL_law_763 dL_law_764 dL_law_766 dL_law_767 dL_law_768 dL_law_773 ?_
    refine x_drp 6 (x_drp 7 ?_)
    exact kk S2 T1 X1 ⟨c6, hX1⟩
  refine x_aload_n 1 g dL_law_732 rfl rfl ?_
  refine x_aload_n 3 g dL_law_733 rfl rfl ?_
  cases res with
  | inr v =>
    obtain ⟨b, S2, e6, c6, ok, t6, v6⟩ := h6 (sr S1 (ao A) 0 v) (hc1.out (gFr.rfl'.r (by simp)))
    refine x_cSW [.int 0] g (k_L_endTerm h5 hx ho hn) ca_L_endTerm st_L_endTerm lm_L_198 (Nat.le_of_ble_eq_true rfl) (Nat.zero_le _) (Nat.zero_le _) rfl rfl (Nat.le_of_ble_eq_true rfl) dL_law_734 rfl ?_
    refine x_istore g dL_law_737 (Nat.le_of_ble_eq_true rfl) rfl ?_
    refine x_less (c1 := c0) (s1 := s0) (by omega) (by omega) ?_
    exact rest 0 _ S2 b e6 c6 t6 (fun _ => ((ok.1 0).trans (gr_sr_at.trans (if_pos rfl))).trans v6.symm)
  | inl E =>
    obtain ⟨b, S2, e6, c6, ok, n, hi, t6⟩ := h6 _ hc1
    rcases n with _ | n
    · have hi : some "java/lang/IllegalStateException" = some E := hi
      cases hi
      refine x_cSW [.int 1] g (t_L_endTerm_1 h5 hx) ca_L_endTerm st_L_endTerm lm_L_198 (Nat.le_of_ble_eq_true rfl) (by omega) (by omega) rfl rfl (Nat.le_of_ble_eq_true rfl) dL_law_734 rfl ?_
      refine x_istore g dL_law_737 (Nat.le_of_ble_eq_true rfl) rfl ?_
      refine x_less (c1 := c0) (s1 := s0) (by omega) (by omega) ?_
      exact rest 1 _ S2 b e6 c6 t6 (fun z => absurd z (by decide))
    · have hi : (none : Option String) = some E := hi
      cases hi
end CASE0
