/-! the law's loop -/
section LOOP
variable {K : gKx} {G : gG} {A : aW} {scr L : Nat} {xs : Nat → Int32}
set_option maxRecDepth 100000 in
theorem law_switch {S : gS} {T : gT} {N i c0 s0 : Nat} {X : mX} (g : Gd K RL cL_law 1475) (hs : gScr K scr L xs) (hfl : flOk) (h : wR G S T A N X) (hN : N + 40000 ≤ 2 ^ 30) (hij : i + 5 ≤ L) (v : Int32) (kk : ∀ S' T' X', wR G S' T' A (N + 40000) X' → Xj K [] G 3276 (lvL scr (ax A) (am A) (ao A) (aoD A) i) [] S' T' c0 s0) : Xj K [] G 44 (lvL scr (ax A) (am A) (ao A) (aoD A) i) [.int v] S T (c0 + 8) (s0 + 400) := by
  by_cases hv : ∃ k, k < 52 ∧ v = nI k
  · obtain ⟨k, hk, rfl⟩ := hv
    match k, hk with
    | 0, _ => exact x_tabI (off := 224) 0 268 g dL_law_44 rfl (by decide) (by decide) (by decide) (by decide) (cs_0 g hs hfl h hN hij kk)
    | 1, _ => exact x_tabI (off := 280) 1 324 g dL_law_44 rfl (by decide) (by decide) (by decide) (by decide) (cs_1 g hs hfl h hN hij kk)
    | 2, _ => exact x_tabI (off := 372) 2 416 g dL_law_44 rfl (by decide) (by decide) (by decide) (by decide) (cs_2 g hs hfl h hN hij kk)
    | 3, _ => exact x_tabI (off := 440) 3 484 g dL_law_44 rfl (by decide) (by decide) (by decide) (by decide) (cs_3 g hs hfl h hN hij kk)
    | 4, _ => exact x_tabI (off := 496) 4 540 g dL_law_44 rfl (by decide) (by decide) (by decide) (by decide) (cs_4 g hs hfl h hN hij kk)
    | 5, _ => exact x_tabI (off := 552) 5 596 g dL_law_44 rfl (by decide) (by decide) (by decide) (by decide) (cs_5 g hs hfl h hN hij kk)
    | 6, _ => exact x_tabI (off := 620) 6 664 g dL_law_44 rfl (by decide) (by decide) (by decide) (by decide) (cs_6 g hs hfl h hN hij kk)
    | 7, _ => exact x_tabI (off := 688) 7 732 g dL_law_44 rfl (by decide) (by decide) (by decide) (by decide) (cs_7 g hs hfl h hN hij kk)
    | 8, _ => exact x_tabI (off := 732) 8 776 g dL_law_44 rfl (by decide) (by decide) (by decide) (by decide) (cs_8 g hs hfl h hN hij kk)
    | 9, _ => exact x_tabI (off := 745) 9 789 g dL_law_44 rfl (by decide) (by decide) (by decide) (by decide) (cs_9 g hs hfl h hN hij kk)
    | 10, _ => exact x_tabI (off := 801) 10 845 g dL_law_44 rfl (by decide) (by decide) (by decide) (by decide) (cs_10 g hs hfl h hN hij kk)
    | 11, _ => exact x_tabI (off := 857) 11 901 g dL_law_44 rfl (by decide) (by decide) (by decide) (by decide) (cs_11 g hs hfl h hN hij kk)
    | 12, _ => exact x_tabI (off := 913) 12 957 g dL_law_44 rfl (by decide) (by decide) (by decide) (by decide) (cs_12 g hs hfl h hN hij kk)
    | 13, _ => exact x_tabI (off := 969) 13 1013 g dL_law_44 rfl (by decide) (by decide) (by decide) (by decide) (cs_13 g hs hfl h hN hij kk)
    | 14, _ => exact x_tabI (off := 1037) 14 1081 g dL_law_44 rfl (by decide) (by decide) (by decide) (by decide) (cs_14 g hs hfl h hN hij kk)
    | 15, _ => exact x_tabI (off := 1112) 15 1156 g dL_law_44 rfl (by decide) (by decide) (by decide) (by decide) (cs_15 g hs hfl h hN hij kk)
    | 16, _ => exact x_tabI (off := 1180) 16 1224 g dL_law_44 rfl (by decide) (by decide) (by decide) (by decide) (cs_16 g hs hfl h hN hij kk)
    | 17, _ => exact x_tabI (off := 1276) 17 1320 g dL_law_44 rfl (by decide) (by decide) (by decide) (by decide) (cs_17 g hs hfl h hN hij kk)
    | 18, _ => exact x_tabI (off := 1351) 18 1395 g dL_law_44 rfl (by decide) (by decide) (by decide) (by decide) (cs_18 g hs hfl h hN hij kk)
    | 19, _ => exact x_tabI (off := 1438) 19 1482 g dL_law_44 rfl (by decide) (by decide) (by decide) (by decide) (cs_19 g hs hfl h hN hij kk)
    | 20, _ => exact x_tabI (off := 1501) 20 1545 g dL_law_44 rfl (by decide) (by decide) (by decide) (by decide) (cs_20 g hs hfl h hN hij kk)
    | 21, _ => exact x_tabI (off := 1609) 21 1653 g dL_law_44 rfl (by decide) (by decide) (by decide) (by decide) (cs_21 g hs hfl h hN hij kk)
    | 22, _ => exact x_tabI (off := 1717) 22 1761 g dL_law_44 rfl (by decide) (by decide) (by decide) (by decide) (cs_22 g hs hfl h hN hij kk)
    | 23, _ => exact x_tabI (off := 1825) 23 1869 g dL_law_44 rfl (by decide) (by decide) (by decide) (by decide) (cs_23 g hs hfl h hN hij kk)
    | 24, _ => exact x_tabI (off := 1954) 24 1998 g dL_law_44 rfl (by decide) (by decide) (by decide) (by decide) (cs_24 g hs hfl h hN hij kk)
    | 25, _ => exact x_tabI (off := 2010) 25 2054 g dL_law_44 rfl (by decide) (by decide) (by decide) (by decide) (cs_25 g hs hfl h hN hij kk)
    | 26, _ => exact x_tabI (off := 2066) 26 2110 g dL_law_44 rfl (by decide) (by decide) (by decide) (by decide) (cs_26 g hs hfl h hN hij kk)
    | 27, _ => exact x_tabI (off := 2134) 27 2178 g dL_law_44 rfl (by decide) (by decide) (by decide) (by decide) (cs_27 g hs hfl h hN hij kk)
    | 28, _ => exact x_tabI (off := 2202) 28 2246 g dL_law_44 rfl (by decide) (by decide) (by decide) (by decide) (cs_28 g hs hfl h hN hij kk)
    | 29, _ => exact x_tabI (off := 2277) 29 2321 g dL_law_44 rfl (by decide) (by decide) (by decide) (by decide) (cs_29 g hs hfl h hN hij kk)
    | 30, _ => exact x_tabI (off := 2340) 30 2384 g dL_law_44 rfl (by decide) (by decide) (by decide) (by decide) (cs_30 g hs hfl h hN hij kk)
    | 31, _ => exact x_tabI (off := 2396) 31 2440 g dL_law_44 rfl (by decide) (by decide) (by decide) (by decide) (cs_31 g hs hfl h hN hij kk)
    | 32, _ => exact x_tabI (off := 2452) 32 2496 g dL_law_44 rfl (by decide) (by decide) (by decide) (by decide) (cs_32 g hs hfl h hN hij kk)
    | 33, _ => exact x_tabI (off := 2508) 33 2552 g dL_law_44 rfl (by decide) (by decide) (by decide) (by decide) (cs_33 g hs hfl h hN hij kk)
    | 34, _ => exact x_tabI (off := 2564) 34 2608 g dL_law_44 rfl (by decide) (by decide) (by decide) (by decide) (cs_34 g hs hfl h hN hij kk)
    | 35, _ => exact x_tabI (off := 2577) 35 2621 g dL_law_44 rfl (by decide) (by decide) (by decide) (by decide) (cs_35 g hs hfl h hN hij kk)
    | 36, _ => exact x_tabI (off := 2590) 36 2634 g dL_law_44 rfl (by decide) (by decide) (by decide) (by decide) (cs_36 g hs hfl h hN hij kk)
    | 37, _ => exact x_tabI (off := 2603) 37 2647 g dL_law_44 rfl (by decide) (by decide) (by decide) (by decide) (cs_37 g hs hfl h hN hij kk)
    | 38, _ => exact x_tabI (off := 2616) 38 2660 g dL_law_44 rfl (by decide) (by decide) (by decide) (by decide) (cs_38 g hs hfl h hN hij kk)
    | 39, _ => exact x_tabI (off := 2629) 39 2673 g dL_law_44 rfl (by decide) (by decide) (by decide) (by decide) (cs_39 g hs hfl h hN hij kk)
    | 40, _ => exact x_tabI (off := 2694) 40 2738 g dL_law_44 rfl (by decide) (by decide) (by decide) (by decide) (cs_40 g hs hfl h hN hij kk)
    | 41, _ => exact x_tabI (off := 2760) 41 2804 g dL_law_44 rfl (by decide) (by decide) (by decide) (by decide) (cs_41 g hs hfl h hN hij kk)
    | 42, _ => exact x_tabI (off := 2773) 42 2817 g dL_law_44 rfl (by decide) (by decide) (by decide) (by decide) (cs_42 g hs hfl h hN hij kk)
    | 43, _ => exact x_tabI (off := 2829) 43 2873 g dL_law_44 rfl (by decide) (by decide) (by decide) (by decide) (cs_43 g hs hfl h hN hij kk)
    | 44, _ => exact x_tabI (off := 2885) 44 2929 g dL_law_44 rfl (by decide) (by decide) (by decide) (by decide) (cs_44 g hs hfl h hN hij kk)
    | 45, _ => exact x_tabI (off := 2941) 45 2985 g dL_law_44 rfl (by decide) (by decide) (by decide) (by decide) (cs_45 g hs hfl h hN hij kk)
    | 46, _ => exact x_tabI (off := 2999) 46 3043 g dL_law_44 rfl (by decide) (by decide) (by decide) (by decide) (cs_46 g hs hfl h hN hij kk)
    | 47, _ => exact x_tabI (off := 3043) 47 3087 g dL_law_44 rfl (by decide) (by decide) (by decide) (by decide) (cs_47 g hs hfl h hN hij kk)
    | 48, _ => exact x_tabI (off := 3087) 48 3131 g dL_law_44 rfl (by decide) (by decide) (by decide) (by decide) (cs_48 g hs hfl h hN hij kk)
    | 49, _ => exact x_tabI (off := 3131) 49 3175 g dL_law_44 rfl (by decide) (by decide) (by decide) (by decide) (cs_49 g hs hfl h hN hij kk)
    | 50, _ => exact x_tabI (off := 3175) 50 3219 g dL_law_44 rfl (by decide) (by decide) (by decide) (by decide) (cs_50 g hs hfl h hN hij kk)
    | 51, _ => exact x_tabI (off := 3188) 51 3232 g dL_law_44 rfl (by decide) (by decide) (by decide) (by decide) (cs_51 g hs hfl h hN hij kk)
    | k + 52, hk => exact absurd hk (by omega)
  · refine x_tabD 3276 g dL_law_44 (by decide) ((List.range 52).map Int.ofNat) (fun z hz e => ?_) (by decide) (x_less (c1 := c0) (s1 := s0) (by omega) (by omega) (kk S T X ⟨h.1, h.2.mono (by omega)⟩))
    obtain ⟨k, h1, h2⟩ := List.mem_map.mp hz
    have hk := List.mem_range.mp h1
    refine hv ⟨k, hk, Int32.toInt_inj.mp ?_⟩
    rw [e, ← h2, nI_toInt (by omega)]
    rfl
theorem law_loop (g : Gd K RL cL_law 1475) (hs : gScr K scr L xs) (hfl : flOk) (hret : ∀ lv S T c0 s0, Xj K [] G 3283 lv [.int 1] S T c0 s0) : ∀ (n i N : Nat) (S : gS) (T : gT) (X : mX), wR G S T A N X → i ≤ L → L < i + 5 * n + 5 → N + 40000 * n ≤ 2 ^ 30 → Xj K [] G 28 (lvL scr (ax A) (am A) (ao A) (aoD A) i) [] S T (8 * n) (400 * n) := by
  have hL := hs.2.2.2
  intro n
  induction n with
  | zero =>
    intro i N S T X h hi hn hN
    refine x_iload g dL_law_28 rfl (x_aload_n 0 g dL_law_30 rfl rfl (x_slen g hs dL_law_31 (x_iconst (v := 5) g dL_law_32 rfl (x_isub g dL_law_33 ?_))))
    refine x_icmp_gt 3282 g dL_law_34 (by decide) (fun _ => x_iconst (v := 1) g dL_law_3282 rfl (hret _ _ _ _ _)) (fun z => absurd ?_ z)
    by_cases q : 5 ≤ L
    · rw [show (5 : Int32) = nI 5 from rfl, nI_sub q]
      exact nI_lt (by omega) (by omega)
    · exact lt_neg hi (by omega)
  | succ n ih =>
    intro i N S T X h hi hn hN
    refine x_iload g dL_law_28 rfl (x_aload_n 0 g dL_law_30 rfl rfl (x_slen g hs dL_law_31 (x_iconst (v := 5) g dL_law_32 rfl (x_isub g dL_law_33 ?_))))
    refine x_icmp_gt 3282 g dL_law_34 (by decide) (fun _ => x_iconst (v := 1) g dL_law_3282 rfl (hret _ _ _ _ _)) (fun z => ?_)
    have hij : i + 5 ≤ L := by
      refine Nat.not_lt.mp (fun q => z ?_)
      by_cases q5 : 5 ≤ L
      · rw [show (5 : Int32) = nI 5 from rfl, nI_sub q5]
        exact nI_lt (by omega) (by omega)
      · exact lt_neg hi (by omega)
    refine x_aload_n 0 g dL_law_37 rfl rfl (x_iload g dL_law_38 rfl (x_scr g hs rfl (by omega) dL_law_40 (x_bipush (v := 63) g dL_law_41 (by decide) (x_iand g dL_law_43 ?_))))
    have hN2 : N + 40000 + 40000 * n ≤ 2 ^ 30 := by
      rw [Nat.mul_succ] at hN
      rw [Nat.add_assoc, Nat.add_comm 40000]
      exact hN
    refine law_switch g hs hfl h (Nat.le_trans (Nat.le_add_right _ _) hN2) hij _ (fun S' T' X' h' => ?_)
    refine x_iinc (v := nI (i + 5)) g dL_law_3276 rfl (by rw [show Int32.ofInt 5 = nI 5 from rfl, nI_add]) rfl ?_
    exact x_goto 28 g dL_law_3279 (by decide) (ih (i + 5) (N + 40000) S' T' X' h' hij (by clear hN hN2; omega) hN2)
end LOOP
