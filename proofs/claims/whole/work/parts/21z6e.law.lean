/-! the law's cases 32 to 41 (laid by wip/whole/mkcase.py) -/
section CASE4
variable {K : gKx} {G : gG} {S : gS} {T : gT} {A : aW} {N : Nat} {X : mX} {c0 s0 scr L i : Nat} {xs : Nat → Int32}
set_option maxRecDepth 100000 in
theorem cs_32 (g : Gd K RL cL_law 1475) (hs : gScr K scr L xs) (hfl : flOk) (h : wR G S T A N X) (hN : N + 40000 ≤ 2 ^ 30) (hij : i + 5 ≤ L) (kk : ∀ S' T' X', wR G S' T' A (N + 40000) X' → Xj K [] G 3276 (lvL scr (ax A) (am A) (ao A) (aoD A) i) [] S' T' c0 s0) : Xj K [] G 2496 (lvL scr (ax A) (am A) (ao A) (aoD A) i) [] S T (c0 + 8) (s0 + 400) := by
  obtain ⟨hx, hm, ho, hn, hoD, hnD⟩ := h.o
  obtain ⟨res, S1, T1, X1, h5, hX1, hc1, h6⟩ := (x_stars h (xs (i + 1))).step h
  obtain ⟨h5, rfl, rfl⟩ := h5
  have rest : ∀ (kv : Int32) (S3 S2 : gS) (b : Int32), f_X6_stars G (am A) (xs (i + 1)) S3 = some (b, S2) → wC G S2 T1 A X1 X1 → gI S2 30 (am A) = kv → (kv = 0 → gr S2 (ao A) 0 = b) → Xj K [] G 2509 ((lvL scr (ax A) (am A) (ao A) (aoD A) i).set 6 (some (.int kv))) [] S3 T1 c0 s0 := by
    intro kv S3 S2 b e6 c6 t6 v6
    refine x_aload_n 2 g dL_law_2509 rfl rfl ?_
    refine x_arg g hs (j := 1) rfl rfl rfl (by omega) dL_law_2510 dL_law_2511 dL_law_2513 dL_law_2514 dL_law_2515 ?_
    refine x_cV [.int b] g (k_X6_stars e6) ca_X6_stars in_X6_stars se_X6_stars lm_L_281 gXX6 hm (Nat.le_of_ble_eq_true rfl) rfl rfl (Nat.le_of_ble_eq_true rfl) dL_law_2516 rfl ?_
    refine x_istore g dL_law_2519 (Nat.le_of_ble_eq_true rfl) rfl ?_
    refine x_tailI g (by decide) hm ho hn rfl rfl rfl rfl t6 v6 (by decide) dL_law_2521 dL_law_2522 dL_law_2525 dL_law_2527 dL_law_2532 dL_law_2534 dL_law_2537 dL_law_2538 dL_law_2539 dL_law_2540 dL_law_2542 dL_law_2543 dL_law_2544 dL_law_2549 ?_
    refine x_drp 6 (x_drp 7 ?_)
    exact kk S2 T1 X1 ⟨c6, hX1⟩
  refine x_aload_n 1 g dL_law_2496 rfl rfl ?_
  refine x_arg g hs (j := 1) rfl rfl rfl (by omega) dL_law_2497 dL_law_2498 dL_law_2500 dL_law_2501 dL_law_2502 ?_
  refine x_aload_n 3 g dL_law_2503 rfl rfl ?_
  cases res with
  | inr v =>
    obtain ⟨b, S2, e6, c6, ok, t6, v6⟩ := h6 (sr S1 (ao A) 0 v) (hc1.out (gFr.rfl'.r (by simp)))
    refine x_cSW [.int 0] g (k_L_stars h5 hx ho hn) ca_L_stars st_L_stars lm_L_279 (Nat.le_of_ble_eq_true rfl) (Nat.zero_le _) (Nat.zero_le _) rfl rfl (Nat.le_of_ble_eq_true rfl) dL_law_2504 rfl ?_
    refine x_istore g dL_law_2507 (Nat.le_of_ble_eq_true rfl) rfl ?_
    refine x_less (c1 := c0) (s1 := s0) (by omega) (by omega) ?_
    exact rest 0 _ S2 b e6 c6 t6 (fun _ => ((ok.1 0).trans (gr_sr_at.trans (if_pos rfl))).trans v6.symm)
  | inl E =>
    obtain ⟨b, S2, e6, c6, ok, n, hi, t6⟩ := h6 _ hc1
    rcases n with _ | n
    · have hi : some "java/lang/IndexOutOfBoundsException" = some E := hi
      cases hi
      refine x_cSW [.int 1] g (t_L_stars_1 h5 hx) ca_L_stars st_L_stars lm_L_279 (Nat.le_of_ble_eq_true rfl) (by omega) (by omega) rfl rfl (Nat.le_of_ble_eq_true rfl) dL_law_2504 rfl ?_
      refine x_istore g dL_law_2507 (Nat.le_of_ble_eq_true rfl) rfl ?_
      refine x_less (c1 := c0) (s1 := s0) (by omega) (by omega) ?_
      exact rest 1 _ S2 b e6 c6 t6 (fun z => absurd z (by decide))
    · have hi : (none : Option String) = some E := hi
      cases hi
set_option maxRecDepth 100000 in
theorem cs_33 (g : Gd K RL cL_law 1475) (hs : gScr K scr L xs) (hfl : flOk) (h : wR G S T A N X) (hN : N + 40000 ≤ 2 ^ 30) (hij : i + 5 ≤ L) (kk : ∀ S' T' X', wR G S' T' A (N + 40000) X' → Xj K [] G 3276 (lvL scr (ax A) (am A) (ao A) (aoD A) i) [] S' T' c0 s0) : Xj K [] G 2552 (lvL scr (ax A) (am A) (ao A) (aoD A) i) [] S T (c0 + 8) (s0 + 400) := by
  obtain ⟨hx, hm, ho, hn, hoD, hnD⟩ := h.o
  obtain ⟨res, S1, T1, X1, h5, hX1, hc1, h6⟩ := (x_rank h hN (xs (i + 1))).step h
  obtain ⟨h5, rfl, rfl⟩ := h5
  have rest : ∀ (kv : Int32) (S3 S2 : gS) (b : Int32), f_X6_umbrellaByStars G (am A) (xs (i + 1)) S3 = some (b, S2) → wC G S2 T1 A X1 X1 → gI S2 30 (am A) = kv → (kv = 0 → gr S2 (ao A) 0 = b) → Xj K [] G 2565 ((lvL scr (ax A) (am A) (ao A) (aoD A) i).set 6 (some (.int kv))) [] S3 T1 c0 s0 := by
    intro kv S3 S2 b e6 c6 t6 v6
    refine x_aload_n 2 g dL_law_2565 rfl rfl ?_
    refine x_arg g hs (j := 1) rfl rfl rfl (by omega) dL_law_2566 dL_law_2567 dL_law_2569 dL_law_2570 dL_law_2571 ?_
    refine x_cV [.int b] g (k_X6_umbrellaByStars e6) ca_X6_umbrellaByStars in_X6_umbrellaByStars se_X6_umbrellaByStars lm_L_284 gXX6 hm (Nat.le_of_ble_eq_true rfl) rfl rfl (Nat.le_of_ble_eq_true rfl) dL_law_2572 rfl ?_
    refine x_istore g dL_law_2575 (Nat.le_of_ble_eq_true rfl) rfl ?_
    refine x_tailI g (by decide) hm ho hn rfl rfl rfl rfl t6 v6 (by decide) dL_law_2577 dL_law_2578 dL_law_2581 dL_law_2583 dL_law_2588 dL_law_2590 dL_law_2593 dL_law_2594 dL_law_2595 dL_law_2596 dL_law_2598 dL_law_2599 dL_law_2600 dL_law_2605 ?_
    refine x_drp 6 (x_drp 7 ?_)
    exact kk S2 T1 X1 ⟨c6, hX1⟩
  refine x_aload_n 1 g dL_law_2552 rfl rfl ?_
  refine x_arg g hs (j := 1) rfl rfl rfl (by omega) dL_law_2553 dL_law_2554 dL_law_2556 dL_law_2557 dL_law_2558 ?_
  refine x_aload_n 3 g dL_law_2559 rfl rfl ?_
  cases res with
  | inr v =>
    obtain ⟨b, S2, e6, c6, ok, t6, v6⟩ := h6 (sr S1 (ao A) 0 v) (hc1.out (gFr.rfl'.r (by simp)))
    refine x_cSW [.int 0] g (k_L_umbrellaByStars h5 hx ho hn) ca_L_umbrellaByStars st_L_umbrellaByStars lm_L_282 (Nat.le_of_ble_eq_true rfl) (Nat.zero_le _) (Nat.zero_le _) rfl rfl (Nat.le_of_ble_eq_true rfl) dL_law_2560 rfl ?_
    refine x_istore g dL_law_2563 (Nat.le_of_ble_eq_true rfl) rfl ?_
    refine x_less (c1 := c0) (s1 := s0) (by omega) (by omega) ?_
    exact rest 0 _ S2 b e6 c6 t6 (fun _ => ((ok.1 0).trans (gr_sr_at.trans (if_pos rfl))).trans v6.symm)
  | inl E =>
    obtain ⟨b, S2, e6, c6, ok, n, hi, t6⟩ := h6 _ hc1
    rcases n with _ | n
    · have hi : some "java/util/NoSuchElementException" = some E := hi
      cases hi
      refine x_cSW [.int 1] g (t_L_umbrellaByStars_1 h5 hx) ca_L_umbrellaByStars st_L_umbrellaByStars lm_L_282 (Nat.le_of_ble_eq_true rfl) (by omega) (by omega) rfl rfl (Nat.le_of_ble_eq_true rfl) dL_law_2560 rfl ?_
      refine x_istore g dL_law_2563 (Nat.le_of_ble_eq_true rfl) rfl ?_
      refine x_less (c1 := c0) (s1 := s0) (by omega) (by omega) ?_
      exact rest 1 _ S2 b e6 c6 t6 (fun z => absurd z (by decide))
    · have hi : (none : Option String) = some E := hi
      cases hi
set_option maxRecDepth 100000 in
theorem cs_34 (g : Gd K RL cL_law 1475) (hs : gScr K scr L xs) (hfl : flOk) (h : wR G S T A N X) (hN : N + 40000 ≤ 2 ^ 30) (hij : i + 5 ≤ L) (kk : ∀ S' T' X', wR G S' T' A (N + 40000) X' → Xj K [] G 3276 (lvL scr (ax A) (am A) (ao A) (aoD A) i) [] S' T' c0 s0) : Xj K [] G 2608 (lvL scr (ax A) (am A) (ao A) (aoD A) i) [] S T (c0 + 8) (s0 + 400) := by
  obtain ⟨hx, hm, ho, hn, hoD, hnD⟩ := h.o
  obtain ⟨v, e5, e6⟩ := x_wetQ h
  have e6 := e6 S h.1
  refine x_aload_n 1 g dL_law_2608 rfl rfl ?_
  refine x_cV [.int v] g (k_X5_wetPenalty e5) ca_X5_wetPenalty in_X5_wetPenalty se_X5_wetPenalty lm_L_285 gXX5 hx (Nat.le_of_ble_eq_true rfl) rfl rfl (Nat.le_of_ble_eq_true rfl) dL_law_2609 rfl ?_
  refine x_aload_n 2 g dL_law_2612 rfl rfl ?_
  refine x_cV [.int v, .int v] g (k_X6_wetPenalty e6) ca_X6_wetPenalty in_X6_wetPenalty se_X6_wetPenalty lm_L_288 gXX6 hm (Nat.le_of_ble_eq_true rfl) rfl rfl (Nat.le_of_ble_eq_true rfl) dL_law_2613 rfl ?_
  refine x_tailQ g rfl (by decide) dL_law_2616 ?_
  exact x_less (c1 := c0) (s1 := s0) (by omega) (by omega) (kk _ T X ⟨h.1.z, h.2.mono (by omega)⟩)
set_option maxRecDepth 100000 in
theorem cs_35 (g : Gd K RL cL_law 1475) (hs : gScr K scr L xs) (hfl : flOk) (h : wR G S T A N X) (hN : N + 40000 ≤ 2 ^ 30) (hij : i + 5 ≤ L) (kk : ∀ S' T' X', wR G S' T' A (N + 40000) X' → Xj K [] G 3276 (lvL scr (ax A) (am A) (ao A) (aoD A) i) [] S' T' c0 s0) : Xj K [] G 2621 (lvL scr (ax A) (am A) (ao A) (aoD A) i) [] S T (c0 + 8) (s0 + 400) := by
  obtain ⟨hx, hm, ho, hn, hoD, hnD⟩ := h.o
  obtain ⟨v, e5, e6⟩ := x_galeQ h
  have e6 := e6 S h.1
  refine x_aload_n 1 g dL_law_2621 rfl rfl ?_
  refine x_cV [.int v] g (k_X5_galePenalty e5) ca_X5_galePenalty in_X5_galePenalty se_X5_galePenalty lm_L_289 gXX5 hx (Nat.le_of_ble_eq_true rfl) rfl rfl (Nat.le_of_ble_eq_true rfl) dL_law_2622 rfl ?_
  refine x_aload_n 2 g dL_law_2625 rfl rfl ?_
  refine x_cV [.int v, .int v] g (k_X6_galePenalty e6) ca_X6_galePenalty in_X6_galePenalty se_X6_galePenalty lm_L_292 gXX6 hm (Nat.le_of_ble_eq_true rfl) rfl rfl (Nat.le_of_ble_eq_true rfl) dL_law_2626 rfl ?_
  refine x_tailQ g rfl (by decide) dL_law_2629 ?_
  exact x_less (c1 := c0) (s1 := s0) (by omega) (by omega) (kk _ T X ⟨h.1.z, h.2.mono (by omega)⟩)
set_option maxRecDepth 100000 in
theorem cs_36 (g : Gd K RL cL_law 1475) (hs : gScr K scr L xs) (hfl : flOk) (h : wR G S T A N X) (hN : N + 40000 ≤ 2 ^ 30) (hij : i + 5 ≤ L) (kk : ∀ S' T' X', wR G S' T' A (N + 40000) X' → Xj K [] G 3276 (lvL scr (ax A) (am A) (ao A) (aoD A) i) [] S' T' c0 s0) : Xj K [] G 2634 (lvL scr (ax A) (am A) (ao A) (aoD A) i) [] S T (c0 + 8) (s0 + 400) := by
  obtain ⟨hx, hm, ho, hn, hoD, hnD⟩ := h.o
  obtain ⟨v, e5, e6⟩ := x_termQ h
  have e6 := e6 S h.1
  refine x_aload_n 1 g dL_law_2634 rfl rfl ?_
  refine x_cV [.int v] g (k_X5_term e5) ca_X5_term in_X5_term se_X5_term lm_L_293 gXX5 hx (Nat.le_of_ble_eq_true rfl) rfl rfl (Nat.le_of_ble_eq_true rfl) dL_law_2635 rfl ?_
  refine x_aload_n 2 g dL_law_2638 rfl rfl ?_
  refine x_cV [.int v, .int v] g (k_X6_term e6) ca_X6_term in_X6_term se_X6_term lm_L_296 gXX6 hm (Nat.le_of_ble_eq_true rfl) rfl rfl (Nat.le_of_ble_eq_true rfl) dL_law_2639 rfl ?_
  refine x_tailQ g rfl (by decide) dL_law_2642 ?_
  exact x_less (c1 := c0) (s1 := s0) (by omega) (by omega) (kk _ T X ⟨h.1.z, h.2.mono (by omega)⟩)
set_option maxRecDepth 100000 in
theorem cs_37 (g : Gd K RL cL_law 1475) (hs : gScr K scr L xs) (hfl : flOk) (h : wR G S T A N X) (hN : N + 40000 ≤ 2 ^ 30) (hij : i + 5 ≤ L) (kk : ∀ S' T' X', wR G S' T' A (N + 40000) X' → Xj K [] G 3276 (lvL scr (ax A) (am A) (ao A) (aoD A) i) [] S' T' c0 s0) : Xj K [] G 2647 (lvL scr (ax A) (am A) (ao A) (aoD A) i) [] S T (c0 + 8) (s0 + 400) := by
  obtain ⟨hx, hm, ho, hn, hoD, hnD⟩ := h.o
  obtain ⟨v, e5, e6⟩ := x_schoolR h
  have e6 := e6 S h.1
  refine x_aload_n 1 g dL_law_2647 rfl rfl ?_
  refine x_cV [.int v] g (k_X5_schoolReward e5) ca_X5_schoolReward in_X5_schoolReward se_X5_schoolReward lm_L_297 gXX5 hx (Nat.le_of_ble_eq_true rfl) rfl rfl (Nat.le_of_ble_eq_true rfl) dL_law_2648 rfl ?_
  refine x_aload_n 2 g dL_law_2651 rfl rfl ?_
  refine x_cV [.int v, .int v] g (k_X6_schoolReward e6) ca_X6_schoolReward in_X6_schoolReward se_X6_schoolReward lm_L_300 gXX6 hm (Nat.le_of_ble_eq_true rfl) rfl rfl (Nat.le_of_ble_eq_true rfl) dL_law_2652 rfl ?_
  refine x_tailQ g rfl (by decide) dL_law_2655 ?_
  exact x_less (c1 := c0) (s1 := s0) (by omega) (by omega) (kk _ T X ⟨h.1.z, h.2.mono (by omega)⟩)
set_option maxRecDepth 100000 in
theorem cs_38 (g : Gd K RL cL_law 1475) (hs : gScr K scr L xs) (hfl : flOk) (h : wR G S T A N X) (hN : N + 40000 ≤ 2 ^ 30) (hij : i + 5 ≤ L) (kk : ∀ S' T' X', wR G S' T' A (N + 40000) X' → Xj K [] G 3276 (lvL scr (ax A) (am A) (ao A) (aoD A) i) [] S' T' c0 s0) : Xj K [] G 2660 (lvL scr (ax A) (am A) (ao A) (aoD A) i) [] S T (c0 + 8) (s0 + 400) := by
  obtain ⟨hx, hm, ho, hn, hoD, hnD⟩ := h.o
  obtain ⟨v, e5, e6⟩ := x_actR h
  have e6 := e6 S h.1
  refine x_aload_n 1 g dL_law_2660 rfl rfl ?_
  refine x_cV [.int v] g (k_X5_schoolRewardByActions e5) ca_X5_schoolRewardByActions in_X5_schoolRewardByActions se_X5_schoolRewardByActions lm_L_301 gXX5 hx (Nat.le_of_ble_eq_true rfl) rfl rfl (Nat.le_of_ble_eq_true rfl) dL_law_2661 rfl ?_
  refine x_aload_n 2 g dL_law_2664 rfl rfl ?_
  refine x_cV [.int v, .int v] g (k_X6_schoolRewardByActions e6) ca_X6_schoolRewardByActions in_X6_schoolRewardByActions se_X6_schoolRewardByActions lm_L_304 gXX6 hm (Nat.le_of_ble_eq_true rfl) rfl rfl (Nat.le_of_ble_eq_true rfl) dL_law_2665 rfl ?_
  refine x_tailQ g rfl (by decide) dL_law_2668 ?_
  exact x_less (c1 := c0) (s1 := s0) (by omega) (by omega) (kk _ T X ⟨h.1.z, h.2.mono (by omega)⟩)
set_option maxRecDepth 100000 in
theorem cs_39 (g : Gd K RL cL_law 1475) (hs : gScr K scr L xs) (hfl : flOk) (h : wR G S T A N X) (hN : N + 40000 ≤ 2 ^ 30) (hij : i + 5 ≤ L) (kk : ∀ S' T' X', wR G S' T' A (N + 40000) X' → Xj K [] G 3276 (lvL scr (ax A) (am A) (ao A) (aoD A) i) [] S' T' c0 s0) : Xj K [] G 2673 (lvL scr (ax A) (am A) (ao A) (aoD A) i) [] S T (c0 + 8) (s0 + 400) := by
  obtain ⟨hx, hm, ho, hn, hoD, hnD⟩ := h.o
  obtain ⟨res, S1, T1, X1, h5, hX1, hc1, h6⟩ := (x_meanS hfl h).step h
  obtain ⟨h5, rfl, rfl⟩ := h5
  have rest : ∀ (kv : Int32) (S3 S2 : gS) (b : UInt64), f_X6_meanSchoolReward G (am A)  S3 = some (b, S2) → wC G S2 T1 A X1 X1 → gI S2 30 (am A) = kv → (kv = 0 → ggd S2 (aoD A) = b) → Xj K [] G 2681 ((lvL scr (ax A) (am A) (ao A) (aoD A) i).set 6 (some (.int kv))) [] S3 T1 c0 s0 := by
    intro kv S3 S2 b e6 c6 t6 v6
    refine x_aload_n 2 g dL_law_2681 rfl rfl ?_
    refine x_cV [.double b] g (k_X6_meanSchoolReward e6) ca_X6_meanSchoolReward in_X6_meanSchoolReward se_X6_meanSchoolReward lm_L_308 gXX6 hm (Nat.le_of_ble_eq_true rfl) rfl rfl (Nat.le_of_ble_eq_true rfl) dL_law_2682 rfl ?_
    refine x_dstore g dL_law_2685 (Nat.le_of_ble_eq_true rfl) rfl ?_
    refine x_tailD g (by decide) hm hoD hnD rfl rfl rfl rfl t6 v6 (by decide) dL_law_2687 dL_law_2688 dL_law_2691 dL_law_2693 dL_law_2698 dL_law_2700 dL_law_2703 dL_law_2705 dL_law_2706 dL_law_2707 dL_law_2709 dL_law_2710 dL_law_2713 dL_law_2715 dL_law_2716 dL_law_2717 dL_law_2719 dL_law_2720 dL_law_2721 dL_law_2722 dL_law_2725 dL_law_2727 dL_law_2729 dL_law_2730 dL_law_2735 ?_
    refine x_drp 6 (x_drp 7 ?_)
    exact kk S2 T1 X1 ⟨c6, hX1⟩
  refine x_aload_n 1 g dL_law_2673 rfl rfl ?_
  refine x_aload g dL_law_2674 rfl ?_
  cases res with
  | inr v =>
    obtain ⟨b, S2, e6, c6, ok, t6, v6⟩ := h6 (gsd S1 (aoD A) v) (hc1.out (gFr.rfl'.row (by simp)))
    refine x_cSW [.int 0] g (k_L_meanSchoolReward h5 hx hoD hnD) ca_L_meanSchoolReward st_L_meanSchoolReward lm_L_305 (Nat.le_of_ble_eq_true rfl) (Nat.zero_le _) (Nat.zero_le _) rfl rfl (Nat.le_of_ble_eq_true rfl) dL_law_2676 rfl ?_
    refine x_istore g dL_law_2679 (Nat.le_of_ble_eq_true rfl) rfl ?_
    refine x_less (c1 := c0) (s1 := s0) (by omega) (by omega) ?_
    exact rest 0 _ S2 b e6 c6 t6 (fun _ => (ggd_ok ok).trans v6.symm)
  | inl E =>
    obtain ⟨b, S2, e6, c6, ok, n, hi, t6⟩ := h6 _ hc1
    rcases n with _ | n
    · have hi : some "java/lang/ArithmeticException" = some E := hi
      cases hi
      refine x_cSW [.int 1] g (t_L_meanSchoolReward_1 h5 hx) ca_L_meanSchoolReward st_L_meanSchoolReward lm_L_305 (Nat.le_of_ble_eq_true rfl) (by omega) (by omega) rfl rfl (Nat.le_of_ble_eq_true rfl) dL_law_2676 rfl ?_
      refine x_istore g dL_law_2679 (Nat.le_of_ble_eq_true rfl) rfl ?_
      refine x_less (c1 := c0) (s1 := s0) (by omega) (by omega) ?_
      exact rest 1 _ S2 b e6 c6 t6 (fun z => absurd z (by decide))
    · have hi : (none : Option String) = some E := hi
      cases hi
set_option maxRecDepth 100000 in
theorem cs_40 (g : Gd K RL cL_law 1475) (hs : gScr K scr L xs) (hfl : flOk) (h : wR G S T A N X) (hN : N + 40000 ≤ 2 ^ 30) (hij : i + 5 ≤ L) (kk : ∀ S' T' X', wR G S' T' A (N + 40000) X' → Xj K [] G 3276 (lvL scr (ax A) (am A) (ao A) (aoD A) i) [] S' T' c0 s0) : Xj K [] G 2738 (lvL scr (ax A) (am A) (ao A) (aoD A) i) [] S T (c0 + 8) (s0 + 400) := by
  obtain ⟨hx, hm, ho, hn, hoD, hnD⟩ := h.o
  obtain ⟨res, S1, T1, X1, h5, hX1, hc1, h6⟩ := (x_share hfl h).step h
  obtain ⟨h5, rfl, rfl⟩ := h5
  have rest : ∀ (kv : Int32) (S3 S2 : gS) (b : UInt32), f_X6_openShare G (am A)  S3 = some (b, S2) → wC G S2 T1 A X1 X1 → gI S2 30 (am A) = kv → (kv = 0 → ggd S2 (aoD A) = FP.f2d b ∧ vf_n32 b) → Xj K [] G 2746 ((lvL scr (ax A) (am A) (ao A) (aoD A) i).set 6 (some (.int kv))) [] S3 T1 c0 s0 := by
    intro kv S3 S2 b e6 c6 t6 v6
    refine x_aload_n 2 g dL_law_2746 rfl rfl ?_
    refine x_cV [.float b] g (k_X6_openShare e6) ca_X6_openShare in_X6_openShare se_X6_openShare lm_L_311 gXX6 hm (Nat.le_of_ble_eq_true rfl) rfl rfl (Nat.le_of_ble_eq_true rfl) dL_law_2747 rfl ?_
    refine x_fstore g dL_law_2750 (Nat.le_of_ble_eq_true rfl) rfl ?_
    refine x_tailF hfl g (by decide) hm hoD hnD rfl rfl rfl rfl t6 v6 (by decide) dL_law_2752 dL_law_2753 dL_law_2756 dL_law_2758 dL_law_2763 dL_law_2765 dL_law_2768 dL_law_2770 dL_law_2771 dL_law_2772 dL_law_2774 dL_law_2775 dL_law_2776 dL_law_2801 ?_
    refine x_drp 6 (x_drp 7 ?_)
    exact kk S2 T1 X1 ⟨c6, hX1⟩
  refine x_aload_n 1 g dL_law_2738 rfl rfl ?_
  refine x_aload g dL_law_2739 rfl ?_
  cases res with
  | inr v =>
    obtain ⟨b, S2, e6, c6, ok, t6, v6⟩ := h6 (gsd S1 (aoD A) (FP.f2d v)) (hc1.out (gFr.rfl'.row (by simp)))
    have vf := share_n h5
    refine x_cSW [.int 0] g (k_L_openShare h5 hx hoD hnD (hfl.2.2.1 v vf)) ca_L_openShare st_L_openShare lm_L_309 (Nat.le_of_ble_eq_true rfl) (Nat.zero_le _) (Nat.zero_le _) rfl rfl (Nat.le_of_ble_eq_true rfl) dL_law_2741 rfl ?_
    refine x_istore g dL_law_2744 (Nat.le_of_ble_eq_true rfl) rfl ?_
    refine x_less (c1 := c0) (s1 := s0) (by omega) (by omega) ?_
    exact rest 0 _ S2 b e6 c6 t6 (fun _ => ⟨(ggd_ok ok).trans (congrArg FP.f2d v6.symm), v6 ▸ vf⟩)
  | inl E =>
    obtain ⟨b, S2, e6, c6, ok, n, hi, t6⟩ := h6 _ hc1
    rcases n with _ | n
    · have hi : some "java/lang/ArithmeticException" = some E := hi
      cases hi
      refine x_cSW [.int 1] g (t_L_openShare_1 h5 hx) ca_L_openShare st_L_openShare lm_L_309 (Nat.le_of_ble_eq_true rfl) (by omega) (by omega) rfl rfl (Nat.le_of_ble_eq_true rfl) dL_law_2741 rfl ?_
      refine x_istore g dL_law_2744 (Nat.le_of_ble_eq_true rfl) rfl ?_
      refine x_less (c1 := c0) (s1 := s0) (by omega) (by omega) ?_
      exact rest 1 _ S2 b e6 c6 t6 (fun z => absurd z (by decide))
    · have hi : (none : Option String) = some E := hi
      cases hi
set_option maxRecDepth 100000 in
theorem cs_41 (g : Gd K RL cL_law 1475) (hs : gScr K scr L xs) (hfl : flOk) (h : wR G S T A N X) (hN : N + 40000 ≤ 2 ^ 30) (hij : i + 5 ≤ L) (kk : ∀ S' T' X', wR G S' T' A (N + 40000) X' → Xj K [] G 3276 (lvL scr (ax A) (am A) (ao A) (aoD A) i) [] S' T' c0 s0) : Xj K [] G 2804 (lvL scr (ax A) (am A) (ao A) (aoD A) i) [] S T (c0 + 8) (s0 + 400) := by
  obtain ⟨hx, hm, ho, hn, hoD, hnD⟩ := h.o
  obtain ⟨v, e5, e6⟩ := x_consist h
  have e6 := e6 S h.1
  refine x_aload_n 1 g dL_law_2804 rfl rfl ?_
  refine x_cV [.int (gz v)] g (k_X5_isConsistent e5) ca_X5_isConsistent in_X5_isConsistent se_X5_isConsistent lm_L_312 gXX5 hx (Nat.le_of_ble_eq_true rfl) rfl rfl (Nat.le_of_ble_eq_true rfl) dL_law_2805 rfl ?_
  refine x_aload_n 2 g dL_law_2808 rfl rfl ?_
  refine x_cV [.int (gz v), .int (gz v)] g (k_X6_isConsistent e6) ca_X6_isConsistent in_X6_isConsistent se_X6_isConsistent lm_L_316 gXX6 hm (Nat.le_of_ble_eq_true rfl) rfl rfl (Nat.le_of_ble_eq_true rfl) dL_law_2809 rfl ?_
  refine x_tailQ g rfl (by decide) dL_law_2812 ?_
  exact x_less (c1 := c0) (s1 := s0) (by omega) (by omega) (kk _ T X ⟨h.1.z, h.2.mono (by omega)⟩)
end CASE4
