/-! the law's cases 8 to 15 (laid by wip/whole/mkcase.py) -/
section CASE1
variable {K : gKx} {G : gG} {S : gS} {T : gT} {A : aW} {N : Nat} {X : mX} {c0 s0 scr L i : Nat} {xs : Nat → Int32}
set_option maxRecDepth 100000 in
theorem cs_8 (g : Gd K RL cL_law 1475) (hs : gScr K scr L xs) (hfl : flOk) (h : wR G S T A N X) (hN : N + 40000 ≤ 2 ^ 30) (hij : i + 5 ≤ L) (kk : ∀ S' T' X', wR G S' T' A (N + 40000) X' → Xj K [] G 3276 (lvL scr (ax A) (am A) (ao A) (aoD A) i) [] S' T' c0 s0) : Xj K [] G 776 (lvL scr (ax A) (am A) (ao A) (aoD A) i) [] S T (c0 + 8) (s0 + 400) := by
  obtain ⟨hx, hm, ho, hn, hoD, hnD⟩ := h.o
  obtain ⟨v, e5, e6⟩ := x_count h
  have e6 := e6 S h.1
  refine x_aload_n 1 g dL_law_776 rfl rfl ?_
  refine x_cV [.int v] g (k_X5_umbrellaCount e5) ca_X5_umbrellaCount in_X5_umbrellaCount se_X5_umbrellaCount lm_L_202 gXX5 hx (Nat.le_of_ble_eq_true rfl) rfl rfl (Nat.le_of_ble_eq_true rfl) dL_law_777 rfl ?_
  refine x_aload_n 2 g dL_law_780 rfl rfl ?_
  refine x_cV [.int v, .int v] g (k_X6_umbrellaCount e6) ca_X6_umbrellaCount in_X6_umbrellaCount se_X6_umbrellaCount lm_L_205 gXX6 hm (Nat.le_of_ble_eq_true rfl) rfl rfl (Nat.le_of_ble_eq_true rfl) dL_law_781 rfl ?_
  refine x_tailQ g rfl (by decide) dL_law_784 ?_
  exact x_less (c1 := c0) (s1 := s0) (by omega) (by omega) (kk _ T X ⟨h.1.z, h.2.mono (by omega)⟩)
set_option maxRecDepth 100000 in
theorem cs_9 (g : Gd K RL cL_law 1475) (hs : gScr K scr L xs) (hfl : flOk) (h : wR G S T A N X) (hN : N + 40000 ≤ 2 ^ 30) (hij : i + 5 ≤ L) (kk : ∀ S' T' X', wR G S' T' A (N + 40000) X' → Xj K [] G 3276 (lvL scr (ax A) (am A) (ao A) (aoD A) i) [] S' T' c0 s0) : Xj K [] G 789 (lvL scr (ax A) (am A) (ao A) (aoD A) i) [] S T (c0 + 8) (s0 + 400) := by
  obtain ⟨hx, hm, ho, hn, hoD, hnD⟩ := h.o
  obtain ⟨res, S1, T1, X1, h5, hX1, hc1, h6⟩ := (x_memory h (xs (i + 1))).step h
  obtain ⟨h5, rfl, rfl⟩ := h5
  have rest : ∀ (kv : Int32) (S3 S2 : gS) (b : Int32), f_X6_memory G (am A) (xs (i + 1)) S3 = some (b, S2) → wC G S2 T1 A X1 X1 → gI S2 30 (am A) = kv → (kv = 0 → gr S2 (ao A) 0 = b) → Xj K [] G 802 ((lvL scr (ax A) (am A) (ao A) (aoD A) i).set 6 (some (.int kv))) [] S3 T1 c0 s0 := by
    intro kv S3 S2 b e6 c6 t6 v6
    refine x_aload_n 2 g dL_law_802 rfl rfl ?_
    refine x_arg g hs (j := 1) rfl rfl rfl (by omega) dL_law_803 dL_law_804 dL_law_806 dL_law_807 dL_law_808 ?_
    refine x_cV [.int b] g (k_X6_memory e6) ca_X6_memory in_X6_memory se_X6_memory lm_L_208 gXX6 hm (Nat.le_of_ble_eq_true rfl) rfl rfl (Nat.le_of_ble_eq_true rfl) dL_law_809 rfl ?_
    refine x_istore g dL_law_812 (Nat.le_of_ble_eq_true rfl) rfl ?_
    refine x_tailI g (by decide) hm ho hn rfl rfl rfl rfl t6 v6 (by decide) dL_law_814 dL_law_815 dL_law_818 dL_law_820 dL_law_825 dL_law_827 dL_law_830 dL_law_831 dL_law_832 dL_law_833 dL_law_835 dL_law_836 dL_law_837 dL_law_842 ?_
    refine x_drp 6 (x_drp 7 ?_)
    exact kk S2 T1 X1 ⟨c6, hX1⟩
  refine x_aload_n 1 g dL_law_789 rfl rfl ?_
  refine x_arg g hs (j := 1) rfl rfl rfl (by omega) dL_law_790 dL_law_791 dL_law_793 dL_law_794 dL_law_795 ?_
  refine x_aload_n 3 g dL_law_796 rfl rfl ?_
  cases res with
  | inr v =>
    obtain ⟨b, S2, e6, c6, ok, t6, v6⟩ := h6 (sr S1 (ao A) 0 v) (hc1.out (gFr.rfl'.r (by simp)))
    refine x_cSW [.int 0] g (k_L_memory h5 hx ho hn) ca_L_memory st_L_memory lm_L_206 (Nat.le_of_ble_eq_true rfl) (Nat.zero_le _) (Nat.zero_le _) rfl rfl (Nat.le_of_ble_eq_true rfl) dL_law_797 rfl ?_
    refine x_istore g dL_law_800 (Nat.le_of_ble_eq_true rfl) rfl ?_
    refine x_less (c1 := c0) (s1 := s0) (by omega) (by omega) ?_
    exact rest 0 _ S2 b e6 c6 t6 (fun _ => ((ok.1 0).trans (gr_sr_at.trans (if_pos rfl))).trans v6.symm)
  | inl E =>
    obtain ⟨b, S2, e6, c6, ok, n, hi, t6⟩ := h6 _ hc1
    rcases n with _ | n
    · have hi : some "java/lang/IndexOutOfBoundsException" = some E := hi
      cases hi
      refine x_cSW [.int 1] g (t_L_memory_1 h5 hx) ca_L_memory st_L_memory lm_L_206 (Nat.le_of_ble_eq_true rfl) (by omega) (by omega) rfl rfl (Nat.le_of_ble_eq_true rfl) dL_law_797 rfl ?_
      refine x_istore g dL_law_800 (Nat.le_of_ble_eq_true rfl) rfl ?_
      refine x_less (c1 := c0) (s1 := s0) (by omega) (by omega) ?_
      exact rest 1 _ S2 b e6 c6 t6 (fun z => absurd z (by decide))
    · have hi : (none : Option String) = some E := hi
      cases hi
set_option maxRecDepth 100000 in
theorem cs_10 (g : Gd K RL cL_law 1475) (hs : gScr K scr L xs) (hfl : flOk) (h : wR G S T A N X) (hN : N + 40000 ≤ 2 ^ 30) (hij : i + 5 ≤ L) (kk : ∀ S' T' X', wR G S' T' A (N + 40000) X' → Xj K [] G 3276 (lvL scr (ax A) (am A) (ao A) (aoD A) i) [] S' T' c0 s0) : Xj K [] G 845 (lvL scr (ax A) (am A) (ao A) (aoD A) i) [] S T (c0 + 8) (s0 + 400) := by
  obtain ⟨hx, hm, ho, hn, hoD, hnD⟩ := h.o
  obtain ⟨res, S1, T1, X1, h5, hX1, hc1, h6⟩ := (x_periodQ h (xs (i + 1))).step h
  obtain ⟨h5, rfl, rfl⟩ := h5
  have rest : ∀ (kv : Int32) (S3 S2 : gS) (b : Int32), f_X6_period G (am A) (xs (i + 1)) S3 = some (b, S2) → wC G S2 T1 A X1 X1 → gI S2 30 (am A) = kv → (kv = 0 → gr S2 (ao A) 0 = b) → Xj K [] G 858 ((lvL scr (ax A) (am A) (ao A) (aoD A) i).set 6 (some (.int kv))) [] S3 T1 c0 s0 := by
    intro kv S3 S2 b e6 c6 t6 v6
    refine x_aload_n 2 g dL_law_858 rfl rfl ?_
    refine x_arg g hs (j := 1) rfl rfl rfl (by omega) dL_law_859 dL_law_860 dL_law_862 dL_law_863 dL_law_864 ?_
    refine x_cV [.int b] g (k_X6_period e6) ca_X6_period in_X6_period se_X6_period lm_L_211 gXX6 hm (Nat.le_of_ble_eq_true rfl) rfl rfl (Nat.le_of_ble_eq_true rfl) dL_law_865 rfl ?_
    refine x_istore g dL_law_868 (Nat.le_of_ble_eq_true rfl) rfl ?_
    refine x_tailI g (by decide) hm ho hn rfl rfl rfl rfl t6 v6 (by decide) dL_law_870 dL_law_871 dL_law_874 dL_law_876 dL_law_881 dL_law_883 dL_law_886 dL_law_887 dL_law_888 dL_law_889 dL_law_891 dL_law_892 dL_law_893 dL_law_898 ?_
    refine x_drp 6 (x_drp 7 ?_)
    exact kk S2 T1 X1 ⟨c6, hX1⟩
  refine x_aload_n 1 g dL_law_845 rfl rfl ?_
  refine x_arg g hs (j := 1) rfl rfl rfl (by omega) dL_law_846 dL_law_847 dL_law_849 dL_law_850 dL_law_851 ?_
  refine x_aload_n 3 g dL_law_852 rfl rfl ?_
  cases res with
  | inr v =>
    obtain ⟨b, S2, e6, c6, ok, t6, v6⟩ := h6 (sr S1 (ao A) 0 v) (hc1.out (gFr.rfl'.r (by simp)))
    refine x_cSW [.int 0] g (k_L_period h5 hx ho hn) ca_L_period st_L_period lm_L_209 (Nat.le_of_ble_eq_true rfl) (Nat.zero_le _) (Nat.zero_le _) rfl rfl (Nat.le_of_ble_eq_true rfl) dL_law_853 rfl ?_
    refine x_istore g dL_law_856 (Nat.le_of_ble_eq_true rfl) rfl ?_
    refine x_less (c1 := c0) (s1 := s0) (by omega) (by omega) ?_
    exact rest 0 _ S2 b e6 c6 t6 (fun _ => ((ok.1 0).trans (gr_sr_at.trans (if_pos rfl))).trans v6.symm)
  | inl E =>
    obtain ⟨b, S2, e6, c6, ok, n, hi, t6⟩ := h6 _ hc1
    rcases n with _ | n
    · have hi : some "java/lang/IndexOutOfBoundsException" = some E := hi
      cases hi
      refine x_cSW [.int 1] g (t_L_period_1 h5 hx) ca_L_period st_L_period lm_L_209 (Nat.le_of_ble_eq_true rfl) (by omega) (by omega) rfl rfl (Nat.le_of_ble_eq_true rfl) dL_law_853 rfl ?_
      refine x_istore g dL_law_856 (Nat.le_of_ble_eq_true rfl) rfl ?_
      refine x_less (c1 := c0) (s1 := s0) (by omega) (by omega) ?_
      exact rest 1 _ S2 b e6 c6 t6 (fun z => absurd z (by decide))
    · have hi : (none : Option String) = some E := hi
      cases hi
set_option maxRecDepth 100000 in
theorem cs_11 (g : Gd K RL cL_law 1475) (hs : gScr K scr L xs) (hfl : flOk) (h : wR G S T A N X) (hN : N + 40000 ≤ 2 ^ 30) (hij : i + 5 ≤ L) (kk : ∀ S' T' X', wR G S' T' A (N + 40000) X' → Xj K [] G 3276 (lvL scr (ax A) (am A) (ao A) (aoD A) i) [] S' T' c0 s0) : Xj K [] G 901 (lvL scr (ax A) (am A) (ao A) (aoD A) i) [] S T (c0 + 8) (s0 + 400) := by
  obtain ⟨hx, hm, ho, hn, hoD, hnD⟩ := h.o
  obtain ⟨res, S1, T1, X1, h5, hX1, hc1, h6⟩ := (x_trials h (xs (i + 1))).step h
  obtain ⟨h5, rfl, rfl⟩ := h5
  have rest : ∀ (kv : Int32) (S3 S2 : gS) (b : Int32), f_X6_trials G (am A) (xs (i + 1)) S3 = some (b, S2) → wC G S2 T1 A X1 X1 → gI S2 30 (am A) = kv → (kv = 0 → gr S2 (ao A) 0 = b) → Xj K [] G 914 ((lvL scr (ax A) (am A) (ao A) (aoD A) i).set 6 (some (.int kv))) [] S3 T1 c0 s0 := by
    intro kv S3 S2 b e6 c6 t6 v6
    refine x_aload_n 2 g dL_law_914 rfl rfl ?_
    refine x_arg g hs (j := 1) rfl rfl rfl (by omega) dL_law_915 dL_law_916 dL_law_918 dL_law_919 dL_law_920 ?_
    refine x_cV [.int b] g (k_X6_trials e6) ca_X6_trials in_X6_trials se_X6_trials lm_L_214 gXX6 hm (Nat.le_of_ble_eq_true rfl) rfl rfl (Nat.le_of_ble_eq_true rfl) dL_law_921 rfl ?_
    refine x_istore g dL_law_924 (Nat.le_of_ble_eq_true rfl) rfl ?_
    refine x_tailI g (by decide) hm ho hn rfl rfl rfl rfl t6 v6 (by decide) dL_law_926 dL_law_927 dL_law_930 dL_law_932 dL_law_937 dL_law_939 dL_law_942 dL_law_943 dL_law_944 dL_law_945 dL_law_947 dL_law_948 dL_law_949 dL_law_954 ?_
    refine x_drp 6 (x_drp 7 ?_)
    exact kk S2 T1 X1 ⟨c6, hX1⟩
  refine x_aload_n 1 g dL_law_901 rfl rfl ?_
  refine x_arg g hs (j := 1) rfl rfl rfl (by omega) dL_law_902 dL_law_903 dL_law_905 dL_law_906 dL_law_907 ?_
  refine x_aload_n 3 g dL_law_908 rfl rfl ?_
  cases res with
  | inr v =>
    obtain ⟨b, S2, e6, c6, ok, t6, v6⟩ := h6 (sr S1 (ao A) 0 v) (hc1.out (gFr.rfl'.r (by simp)))
    refine x_cSW [.int 0] g (k_L_trials h5 hx ho hn) ca_L_trials st_L_trials lm_L_212 (Nat.le_of_ble_eq_true rfl) (Nat.zero_le _) (Nat.zero_le _) rfl rfl (Nat.le_of_ble_eq_true rfl) dL_law_909 rfl ?_
    refine x_istore g dL_law_912 (Nat.le_of_ble_eq_true rfl) rfl ?_
    refine x_less (c1 := c0) (s1 := s0) (by omega) (by omega) ?_
    exact rest 0 _ S2 b e6 c6 t6 (fun _ => ((ok.1 0).trans (gr_sr_at.trans (if_pos rfl))).trans v6.symm)
  | inl E =>
    obtain ⟨b, S2, e6, c6, ok, n, hi, t6⟩ := h6 _ hc1
    rcases n with _ | n
    · have hi : some "java/lang/IndexOutOfBoundsException" = some E := hi
      cases hi
      refine x_cSW [.int 1] g (t_L_trials_1 h5 hx) ca_L_trials st_L_trials lm_L_212 (Nat.le_of_ble_eq_true rfl) (by omega) (by omega) rfl rfl (Nat.le_of_ble_eq_true rfl) dL_law_909 rfl ?_
      refine x_istore g dL_law_912 (Nat.le_of_ble_eq_true rfl) rfl ?_
      refine x_less (c1 := c0) (s1 := s0) (by omega) (by omega) ?_
      exact rest 1 _ S2 b e6 c6 t6 (fun z => absurd z (by decide))
    · have hi : (none : Option String) = some E := hi
      cases hi
set_option maxRecDepth 100000 in
theorem cs_12 (g : Gd K RL cL_law 1475) (hs : gScr K scr L xs) (hfl : flOk) (h : wR G S T A N X) (hN : N + 40000 ≤ 2 ^ 30) (hij : i + 5 ≤ L) (kk : ∀ S' T' X', wR G S' T' A (N + 40000) X' → Xj K [] G 3276 (lvL scr (ax A) (am A) (ao A) (aoD A) i) [] S' T' c0 s0) : Xj K [] G 957 (lvL scr (ax A) (am A) (ao A) (aoD A) i) [] S T (c0 + 8) (s0 + 400) := by
  obtain ⟨hx, hm, ho, hn, hoD, hnD⟩ := h.o
  obtain ⟨res, S1, T1, X1, h5, hX1, hc1, h6⟩ := (x_rememb h (xs (i + 1))).step h
  obtain ⟨h5, rfl, rfl⟩ := h5
  have rest : ∀ (kv : Int32) (S3 S2 : gS) (b : Int32), f_X6_rememberedTrials G (am A) (xs (i + 1)) S3 = some (b, S2) → wC G S2 T1 A X1 X1 → gI S2 30 (am A) = kv → (kv = 0 → gr S2 (ao A) 0 = b) → Xj K [] G 970 ((lvL scr (ax A) (am A) (ao A) (aoD A) i).set 6 (some (.int kv))) [] S3 T1 c0 s0 := by
    intro kv S3 S2 b e6 c6 t6 v6
    refine x_aload_n 2 g dL_law_970 rfl rfl ?_
    refine x_arg g hs (j := 1) rfl rfl rfl (by omega) dL_law_971 dL_law_972 dL_law_974 dL_law_975 dL_law_976 ?_
    refine x_cV [.int b] g (k_X6_rememberedTrials e6) ca_X6_rememberedTrials in_X6_rememberedTrials se_X6_rememberedTrials lm_L_217 gXX6 hm (Nat.le_of_ble_eq_true rfl) rfl rfl (Nat.le_of_ble_eq_true rfl) dL_law_977 rfl ?_
    refine x_istore g dL_law_980 (Nat.le_of_ble_eq_true rfl) rfl ?_
    refine x_tailI g (by decide) hm ho hn rfl rfl rfl rfl t6 v6 (by decide) dL_law_982 dL_law_983 dL_law_986 dL_law_988 dL_law_993 dL_law_995 dL_law_998 dL_law_999 dL_law_1000 dL_law_1001 dL_law_1003 dL_law_1004 dL_law_1005 dL_law_1010 ?_
    refine x_drp 6 (x_drp 7 ?_)
    exact kk S2 T1 X1 ⟨c6, hX1⟩
  refine x_aload_n 1 g dL_law_957 rfl rfl ?_
  refine x_arg g hs (j := 1) rfl rfl rfl (by omega) dL_law_958 dL_law_959 dL_law_961 dL_law_962 dL_law_963 ?_
  refine x_aload_n 3 g dL_law_964 rfl rfl ?_
  cases res with
  | inr v =>
    obtain ⟨b, S2, e6, c6, ok, t6, v6⟩ := h6 (sr S1 (ao A) 0 v) (hc1.out (gFr.rfl'.r (by simp)))
    refine x_cSW [.int 0] g (k_L_rememberedTrials h5 hx ho hn) ca_L_rememberedTrials st_L_rememberedTrials lm_L_215 (Nat.le_of_ble_eq_true rfl) (Nat.zero_le _) (Nat.zero_le _) rfl rfl (Nat.le_of_ble_eq_true rfl) dL_law_965 rfl ?_
    refine x_istore g dL_law_968 (Nat.le_of_ble_eq_true rfl) rfl ?_
    refine x_less (c1 := c0) (s1 := s0) (by omega) (by omega) ?_
    exact rest 0 _ S2 b e6 c6 t6 (fun _ => ((ok.1 0).trans (gr_sr_at.trans (if_pos rfl))).trans v6.symm)
  | inl E =>
    obtain ⟨b, S2, e6, c6, ok, n, hi, t6⟩ := h6 _ hc1
    rcases n with _ | n
    · have hi : some "java/lang/IndexOutOfBoundsException" = some E := hi
      cases hi
      refine x_cSW [.int 1] g (t_L_rememberedTrials_1 h5 hx) ca_L_rememberedTrials st_L_rememberedTrials lm_L_215 (Nat.le_of_ble_eq_true rfl) (by omega) (by omega) rfl rfl (Nat.le_of_ble_eq_true rfl) dL_law_965 rfl ?_
      refine x_istore g dL_law_968 (Nat.le_of_ble_eq_true rfl) rfl ?_
      refine x_less (c1 := c0) (s1 := s0) (by omega) (by omega) ?_
      exact rest 1 _ S2 b e6 c6 t6 (fun z => absurd z (by decide))
    · have hi : (none : Option String) = some E := hi
      cases hi
set_option maxRecDepth 100000 in
theorem cs_13 (g : Gd K RL cL_law 1475) (hs : gScr K scr L xs) (hfl : flOk) (h : wR G S T A N X) (hN : N + 40000 ≤ 2 ^ 30) (hij : i + 5 ≤ L) (kk : ∀ S' T' X', wR G S' T' A (N + 40000) X' → Xj K [] G 3276 (lvL scr (ax A) (am A) (ao A) (aoD A) i) [] S' T' c0 s0) : Xj K [] G 1013 (lvL scr (ax A) (am A) (ao A) (aoD A) i) [] S T (c0 + 8) (s0 + 400) := by
  obtain ⟨hx, hm, ho, hn, hoD, hnD⟩ := h.o
  obtain ⟨res, S1, T1, X1, h5, hX1, hc1, h6⟩ := (x_trialRain h (xs (i + 1)) (xs (i + 2))).step h
  obtain ⟨h5, rfl, rfl⟩ := h5
  have rest : ∀ (kv : Int32) (S3 S2 : gS) (b : Int32), f_X6_trialRain G (am A) (xs (i + 1)) (xs (i + 2)) S3 = some (b, S2) → wC G S2 T1 A X1 X1 → gI S2 30 (am A) = kv → (kv = 0 → gr S2 (ao A) 0 = b) → Xj K [] G 1032 ((lvL scr (ax A) (am A) (ao A) (aoD A) i).set 6 (some (.int kv))) [] S3 T1 c0 s0 := by
    intro kv S3 S2 b e6 c6 t6 v6
    refine x_aload_n 2 g dL_law_1032 rfl rfl ?_
    refine x_arg g hs (j := 1) rfl rfl rfl (by omega) dL_law_1033 dL_law_1034 dL_law_1036 dL_law_1037 dL_law_1038 ?_
    refine x_arg g hs (j := 2) rfl rfl rfl (by omega) dL_law_1039 dL_law_1040 dL_law_1042 dL_law_1043 dL_law_1044 ?_
    refine x_cV [.int b] g (k_X6_trialRain e6) ca_X6_trialRain in_X6_trialRain se_X6_trialRain lm_L_220 gXX6 hm (Nat.le_of_ble_eq_true rfl) rfl rfl (Nat.le_of_ble_eq_true rfl) dL_law_1045 rfl ?_
    refine x_istore g dL_law_1048 (Nat.le_of_ble_eq_true rfl) rfl ?_
    refine x_tailI g (by decide) hm ho hn rfl rfl rfl rfl t6 v6 (by decide) dL_law_1050 dL_law_1051 dL_law_1054 dL_law_1056 dL_law_1061 dL_law_1063 dL_law_1066 dL_law_1067 dL_law_1068 dL_law_1069 dL_law_1071 dL_law_1072 dL_law_1073 dL_law_1078 ?_
    refine x_drp 6 (x_drp 7 ?_)
    exact kk S2 T1 X1 ⟨c6, hX1⟩
  refine x_aload_n 1 g dL_law_1013 rfl rfl ?_
  refine x_arg g hs (j := 1) rfl rfl rfl (by omega) dL_law_1014 dL_law_1015 dL_law_1017 dL_law_1018 dL_law_1019 ?_
  refine x_arg g hs (j := 2) rfl rfl rfl (by omega) dL_law_1020 dL_law_1021 dL_law_1023 dL_law_1024 dL_law_1025 ?_
  refine x_aload_n 3 g dL_law_1026 rfl rfl ?_
  cases res with
  | inr v =>
    obtain ⟨b, S2, e6, c6, ok, t6, v6⟩ := h6 (sr S1 (ao A) 0 v) (hc1.out (gFr.rfl'.r (by simp)))
    refine x_cSW [.int 0] g (k_L_trialRain h5 hx ho hn) ca_L_trialRain st_L_trialRain lm_L_218 (Nat.le_of_ble_eq_true rfl) (Nat.zero_le _) (Nat.zero_le _) rfl rfl (Nat.le_of_ble_eq_true rfl) dL_law_1027 rfl ?_
    refine x_istore g dL_law_1030 (Nat.le_of_ble_eq_true rfl) rfl ?_
    refine x_less (c1 := c0) (s1 := s0) (by omega) (by omega) ?_
    exact rest 0 _ S2 b e6 c6 t6 (fun _ => ((ok.1 0).trans (gr_sr_at.trans (if_pos rfl))).trans v6.symm)
  | inl E =>
    obtain ⟨b, S2, e6, c6, ok, n, hi, t6⟩ := h6 _ hc1
    rcases n with _ | _ | n
    · have hi : some "java/lang/IndexOutOfBoundsException" = some E := hi
      cases hi
      refine x_cSW [.int 1] g (t_L_trialRain_1 h5 hx) ca_L_trialRain st_L_trialRain lm_L_218 (Nat.le_of_ble_eq_true rfl) (by omega) (by omega) rfl rfl (Nat.le_of_ble_eq_true rfl) dL_law_1027 rfl ?_
      refine x_istore g dL_law_1030 (Nat.le_of_ble_eq_true rfl) rfl ?_
      refine x_less (c1 := c0) (s1 := s0) (by omega) (by omega) ?_
      exact rest 1 _ S2 b e6 c6 t6 (fun z => absurd z (by decide))
    · have hi : some "java/util/NoSuchElementException" = some E := hi
      cases hi
      refine x_cSW [.int 2] g (t_L_trialRain_2 h5 hx) ca_L_trialRain st_L_trialRain lm_L_218 (Nat.le_of_ble_eq_true rfl) (by omega) (by omega) rfl rfl (Nat.le_of_ble_eq_true rfl) dL_law_1027 rfl ?_
      refine x_istore g dL_law_1030 (Nat.le_of_ble_eq_true rfl) rfl ?_
      refine x_less (c1 := c0) (s1 := s0) (by omega) (by omega) ?_
      exact rest 2 _ S2 b e6 c6 t6 (fun z => absurd z (by decide))
    · have hi : (none : Option String) = some E := hi
      cases hi
set_option maxRecDepth 100000 in
theorem cs_14 (g : Gd K RL cL_law 1475) (hs : gScr K scr L xs) (hfl : flOk) (h : wR G S T A N X) (hN : N + 40000 ≤ 2 ^ 30) (hij : i + 5 ≤ L) (kk : ∀ S' T' X', wR G S' T' A (N + 40000) X' → Xj K [] G 3276 (lvL scr (ax A) (am A) (ao A) (aoD A) i) [] S' T' c0 s0) : Xj K [] G 1081 (lvL scr (ax A) (am A) (ao A) (aoD A) i) [] S T (c0 + 8) (s0 + 400) := by
  obtain ⟨hx, hm, ho, hn, hoD, hnD⟩ := h.o
  obtain ⟨res, S1, T1, X1, h5, hX1, hc1, h6⟩ := (x_trialOpened h (xs (i + 1)) (xs (i + 2))).step h
  obtain ⟨h5, rfl, rfl⟩ := h5
  have rest : ∀ (kv : Int32) (S3 S2 : gS) (b : Bool), f_X6_trialOpened G (am A) (xs (i + 1)) (xs (i + 2)) S3 = some (b, S2) → wC G S2 T1 A X1 X1 → gI S2 30 (am A) = kv → (kv = 0 → gr S2 (ao A) 0 = gz b) → Xj K [] G 1100 ((lvL scr (ax A) (am A) (ao A) (aoD A) i).set 6 (some (.int kv))) [] S3 T1 c0 s0 := by
    intro kv S3 S2 b e6 c6 t6 v6
    refine x_aload_n 2 g dL_law_1100 rfl rfl ?_
    refine x_arg g hs (j := 1) rfl rfl rfl (by omega) dL_law_1101 dL_law_1102 dL_law_1104 dL_law_1105 dL_law_1106 ?_
    refine x_arg g hs (j := 2) rfl rfl rfl (by omega) dL_law_1107 dL_law_1108 dL_law_1110 dL_law_1111 dL_law_1112 ?_
    refine x_cV [.int (gz b)] g (k_X6_trialOpened e6) ca_X6_trialOpened in_X6_trialOpened se_X6_trialOpened lm_L_223 gXX6 hm (Nat.le_of_ble_eq_true rfl) rfl rfl (Nat.le_of_ble_eq_true rfl) dL_law_1113 rfl ?_
    refine x_istore g dL_law_1116 (Nat.le_of_ble_eq_true rfl) rfl ?_
    refine x_tailB g (by decide) hm ho hn rfl rfl rfl rfl t6 v6 (by decide) dL_law_1118 dL_law_1119 dL_law_1122 dL_law_1124 dL_law_1129 dL_law_1131 dL_law_1134 dL_law_1135 dL_law_1136 dL_law_1137 dL_law_1139 dL_law_1142 dL_law_1143 dL_law_1146 dL_law_1147 dL_law_1148 dL_law_1153 ?_
    refine x_drp 6 (x_drp 7 ?_)
    exact kk S2 T1 X1 ⟨c6, hX1⟩
  refine x_aload_n 1 g dL_law_1081 rfl rfl ?_
  refine x_arg g hs (j := 1) rfl rfl rfl (by omega) dL_law_1082 dL_law_1083 dL_law_1085 dL_law_1086 dL_law_1087 ?_
  refine x_arg g hs (j := 2) rfl rfl rfl (by omega) dL_law_1088 dL_law_1089 dL_law_1091 dL_law_1092 dL_law_1093 ?_
  refine x_aload_n 3 g dL_law_1094 rfl rfl ?_
  cases res with
  | inr v =>
    obtain ⟨b, S2, e6, c6, ok, t6, v6⟩ := h6 (sr S1 (ao A) 0 (gz v)) (hc1.out (gFr.rfl'.r (by simp)))
    refine x_cSW [.int 0] g (k_L_trialOpened h5 hx ho hn) ca_L_trialOpened st_L_trialOpened lm_L_221 (Nat.le_of_ble_eq_true rfl) (Nat.zero_le _) (Nat.zero_le _) rfl rfl (Nat.le_of_ble_eq_true rfl) dL_law_1095 rfl ?_
    refine x_istore g dL_law_1098 (Nat.le_of_ble_eq_true rfl) rfl ?_
    refine x_less (c1 := c0) (s1 := s0) (by omega) (by omega) ?_
    exact rest 0 _ S2 b e6 c6 t6 (fun _ => ((ok.1 0).trans (gr_sr_at.trans (if_pos rfl))).trans (congrArg gz v6.symm))
  | inl E =>
    obtain ⟨b, S2, e6, c6, ok, n, hi, t6⟩ := h6 _ hc1
    rcases n with _ | _ | n
    · have hi : some "java/lang/IndexOutOfBoundsException" = some E := hi
      cases hi
      refine x_cSW [.int 1] g (t_L_trialOpened_1 h5 hx) ca_L_trialOpened st_L_trialOpened lm_L_221 (Nat.le_of_ble_eq_true rfl) (by omega) (by omega) rfl rfl (Nat.le_of_ble_eq_true rfl) dL_law_1095 rfl ?_
      refine x_istore g dL_law_1098 (Nat.le_of_ble_eq_true rfl) rfl ?_
      refine x_less (c1 := c0) (s1 := s0) (by omega) (by omega) ?_
      exact rest 1 _ S2 b e6 c6 t6 (fun z => absurd z (by decide))
    · have hi : some "java/util/NoSuchElementException" = some E := hi
      cases hi
      refine x_cSW [.int 2] g (t_L_trialOpened_2 h5 hx) ca_L_trialOpened st_L_trialOpened lm_L_221 (Nat.le_of_ble_eq_true rfl) (by omega) (by omega) rfl rfl (Nat.le_of_ble_eq_true rfl) dL_law_1095 rfl ?_
      refine x_istore g dL_law_1098 (Nat.le_of_ble_eq_true rfl) rfl ?_
      refine x_less (c1 := c0) (s1 := s0) (by omega) (by omega) ?_
      exact rest 2 _ S2 b e6 c6 t6 (fun z => absurd z (by decide))
    · have hi : (none : Option String) = some E := hi
      cases hi
set_option maxRecDepth 100000 in
theorem cs_15 (g : Gd K RL cL_law 1475) (hs : gScr K scr L xs) (hfl : flOk) (h : wR G S T A N X) (hN : N + 40000 ≤ 2 ^ 30) (hij : i + 5 ≤ L) (kk : ∀ S' T' X', wR G S' T' A (N + 40000) X' → Xj K [] G 3276 (lvL scr (ax A) (am A) (ao A) (aoD A) i) [] S' T' c0 s0) : Xj K [] G 1156 (lvL scr (ax A) (am A) (ao A) (aoD A) i) [] S T (c0 + 8) (s0 + 400) := by
  obtain ⟨hx, hm, ho, hn, hoD, hnD⟩ := h.o
  obtain ⟨res, S1, T1, X1, h5, hX1, hc1, h6⟩ := (x_trialReward h (xs (i + 1)) (xs (i + 2))).step h
  obtain ⟨h5, rfl, rfl⟩ := h5
  have rest : ∀ (kv : Int32) (S3 S2 : gS) (b : Int32), f_X6_trialReward G (am A) (xs (i + 1)) (xs (i + 2)) S3 = some (b, S2) → wC G S2 T1 A X1 X1 → gI S2 30 (am A) = kv → (kv = 0 → gr S2 (ao A) 0 = b) → Xj K [] G 1175 ((lvL scr (ax A) (am A) (ao A) (aoD A) i).set 6 (some (.int kv))) [] S3 T1 c0 s0 := by
    intro kv S3 S2 b e6 c6 t6 v6
    refine x_aload_n 2 g dL_law_1175 rfl rfl ?_
    refine x_arg g hs (j := 1) rfl rfl rfl (by omega) dL_law_1176 dL_law_1177 dL_law_1179 dL_law_1180 dL_law_1181 ?_
    refine x_arg g hs (j := 2) rfl rfl rfl (by omega) dL_law_1182 dL_law_1183 dL_law_1185 dL_law_1186 dL_law_1187 ?_
    refine x_cV [.int b] g (k_X6_trialReward e6) ca_X6_trialReward in_X6_trialReward se_X6_trialReward lm_L_226 gXX6 hm (Nat.le_of_ble_eq_true rfl) rfl rfl (Nat.le_of_ble_eq_true rfl) dL_law_1188 rfl ?_
    refine x_istore g dL_law_1191 (Nat.le_of_ble_eq_true rfl) rfl ?_
    refine x_tailI g (by decide) hm ho hn rfl rfl rfl rfl t6 v6 (by decide) dL_law_1193 dL_law_1194 dL_law_1197 dL_law_1199 dL_law_1204 dL_law_1206 dL_law_1209 dL_law_1210 dL_law_1211 dL_law_1212 dL_law_1214 dL_law_1215 dL_law_1216 dL_law_1221 ?_
    refine x_drp 6 (x_drp 7 ?_)
    exact kk S2 T1 X1 ⟨c6, hX1⟩
  refine x_aload_n 1 g dL_law_1156 rfl rfl ?_
  refine x_arg g hs (j := 1) rfl rfl rfl (by omega) dL_law_1157 dL_law_1158 dL_law_1160 dL_law_1161 dL_law_1162 ?_
  refine x_arg g hs (j := 2) rfl rfl rfl (by omega) dL_law_1163 dL_law_1164 dL_law_1166 dL_law_1167 dL_law_1168 ?_
  refine x_aload_n 3 g dL_law_1169 rfl rfl ?_
  cases res with
  | inr v =>
    obtain ⟨b, S2, e6, c6, ok, t6, v6⟩ := h6 (sr S1 (ao A) 0 v) (hc1.out (gFr.rfl'.r (by simp)))
    refine x_cSW [.int 0] g (k_L_trialReward h5 hx ho hn) ca_L_trialReward st_L_trialReward lm_L_224 (Nat.le_of_ble_eq_true rfl) (Nat.zero_le _) (Nat.zero_le _) rfl rfl (Nat.le_of_ble_eq_true rfl) dL_law_1170 rfl ?_
    refine x_istore g dL_law_1173 (Nat.le_of_ble_eq_true rfl) rfl ?_
    refine x_less (c1 := c0) (s1 := s0) (by omega) (by omega) ?_
    exact rest 0 _ S2 b e6 c6 t6 (fun _ => ((ok.1 0).trans (gr_sr_at.trans (if_pos rfl))).trans v6.symm)
  | inl E =>
    obtain ⟨b, S2, e6, c6, ok, n, hi, t6⟩ := h6 _ hc1
    rcases n with _ | _ | n
    · have hi : some "java/lang/IndexOutOfBoundsException" = some E := hi
      cases hi
      refine x_cSW [.int 1] g (t_L_trialReward_1 h5 hx) ca_L_trialReward st_L_trialReward lm_L_224 (Nat.le_of_ble_eq_true rfl) (by omega) (by omega) rfl rfl (Nat.le_of_ble_eq_true rfl) dL_law_1170 rfl ?_
      refine x_istore g dL_law_1173 (Nat.le_of_ble_eq_true rfl) rfl ?_
      refine x_less (c1 := c0) (s1 := s0) (by omega) (by omega) ?_
      exact rest 1 _ S2 b e6 c6 t6 (fun z => absurd z (by decide))
    · have hi : some "java/util/NoSuchElementException" = some E := hi
      cases hi
      refine x_cSW [.int 2] g (t_L_trialReward_2 h5 hx) ca_L_trialReward st_L_trialReward lm_L_224 (Nat.le_of_ble_eq_true rfl) (by omega) (by omega) rfl rfl (Nat.le_of_ble_eq_true rfl) dL_law_1170 rfl ?_
      refine x_istore g dL_law_1173 (Nat.le_of_ble_eq_true rfl) rfl ?_
      refine x_less (c1 := c0) (s1 := s0) (by omega) (by omega) ?_
      exact rest 2 _ S2 b e6 c6 t6 (fun z => absurd z (by decide))
    · have hi : (none : Option String) = some E := hi
      cases hi
end CASE1
