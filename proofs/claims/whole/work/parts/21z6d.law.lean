/-! the law's cases 24 to 31 (laid by wip/whole/mkcase.py) -/
section CASE3
variable {K : gKx} {G : gG} {S : gS} {T : gT} {A : aW} {N : Nat} {X : mX} {c0 s0 scr L i : Nat} {xs : Nat → Int32}
set_option maxRecDepth 100000 in
theorem cs_24 (g : Gd K RL cL_law 1475) (hs : gScr K scr L xs) (hfl : flOk) (h : wR G S T A N X) (hN : N + 40000 ≤ 2 ^ 30) (hij : i + 5 ≤ L) (kk : ∀ S' T' X', wR G S' T' A (N + 40000) X' → Xj K [] G 3276 (lvL scr (ax A) (am A) (ao A) (aoD A) i) [] S' T' c0 s0) : Xj K [] G 1998 (lvL scr (ax A) (am A) (ao A) (aoD A) i) [] S T (c0 + 8) (s0 + 400) := by
  obtain ⟨hx, hm, ho, hn, hoD, hnD⟩ := h.o
  obtain ⟨res, S1, T1, X1, h5, hX1, hc1, h6⟩ := (x_habits h (xs (i + 1))).step h
  obtain ⟨h5, rfl, rfl⟩ := h5
  have rest : ∀ (kv : Int32) (S3 S2 : gS) (b : Int32), f_X6_rightHabits G (am A) (xs (i + 1)) S3 = some (b, S2) → wC G S2 T1 A X1 X1 → gI S2 30 (am A) = kv → (kv = 0 → gr S2 (ao A) 0 = b) → Xj K [] G 2011 ((lvL scr (ax A) (am A) (ao A) (aoD A) i).set 6 (some (.int kv))) [] S3 T1 c0 s0 := by
    intro kv S3 S2 b e6 c6 t6 v6
    refine x_aload_n 2 g dL_law_2011 rfl rfl ?_
    refine x_arg g hs (j := 1) rfl rfl rfl (by omega) dL_law_2012 dL_law_2013 dL_law_2015 dL_law_2016 dL_law_2017 ?_
    refine x_cV [.int b] g (k_X6_rightHabits e6) ca_X6_rightHabits in_X6_rightHabits se_X6_rightHabits lm_L_257 gXX6 hm (Nat.le_of_ble_eq_true rfl) rfl rfl (Nat.le_of_ble_eq_true rfl) dL_law_2018 rfl ?_
    refine x_istore g dL_law_2021 (Nat.le_of_ble_eq_true rfl) rfl ?_
    refine x_tailI g (by decide) hm ho hn rfl rfl rfl rfl t6 v6 (by decide) dL_law_2023 dL_law_2024 dL_law_2027 dL_law_2029 dL_law_2034 dL_law_2036 dL_law_2039 dL_law_2040 dL_law_2041 dL_law_2042 dL_law_2044 dL_law_2045 dL_law_2046 dL_law_2051 ?_
    refine x_drp 6 (x_drp 7 ?_)
    exact kk S2 T1 X1 ⟨c6, hX1⟩
  refine x_aload_n 1 g dL_law_1998 rfl rfl ?_
  refine x_arg g hs (j := 1) rfl rfl rfl (by omega) dL_law_1999 dL_law_2000 dL_law_2002 dL_law_2003 dL_law_2004 ?_
  refine x_aload_n 3 g dL_law_2005 rfl rfl ?_
  cases res with
  | inr v =>
    obtain ⟨b, S2, e6, c6, ok, t6, v6⟩ := h6 (sr S1 (ao A) 0 v) (hc1.out (gFr.rfl'.r (by simp)))
    refine x_cSW [.int 0] g (k_L_rightHabits h5 hx ho hn) ca_L_rightHabits st_L_rightHabits lm_L_255 (Nat.le_of_ble_eq_true rfl) (Nat.zero_le _) (Nat.zero_le _) rfl rfl (Nat.le_of_ble_eq_true rfl) dL_law_2006 rfl ?_
    refine x_istore g dL_law_2009 (Nat.le_of_ble_eq_true rfl) rfl ?_
    refine x_less (c1 := c0) (s1 := s0) (by omega) (by omega) ?_
    exact rest 0 _ S2 b e6 c6 t6 (fun _ => ((ok.1 0).trans (gr_sr_at.trans (if_pos rfl))).trans v6.symm)
  | inl E =>
    obtain ⟨b, S2, e6, c6, ok, n, hi, t6⟩ := h6 _ hc1
    rcases n with _ | n
    · have hi : some "java/lang/IndexOutOfBoundsException" = some E := hi
      cases hi
      refine x_cSW [.int 1] g (t_L_rightHabits_1 h5 hx) ca_L_rightHabits st_L_rightHabits lm_L_255 (Nat.le_of_ble_eq_true rfl) (by omega) (by omega) rfl rfl (Nat.le_of_ble_eq_true rfl) dL_law_2006 rfl ?_
      refine x_istore g dL_law_2009 (Nat.le_of_ble_eq_true rfl) rfl ?_
      refine x_less (c1 := c0) (s1 := s0) (by omega) (by omega) ?_
      exact rest 1 _ S2 b e6 c6 t6 (fun z => absurd z (by decide))
    · have hi : (none : Option String) = some E := hi
      cases hi
set_option maxRecDepth 100000 in
theorem cs_25 (g : Gd K RL cL_law 1475) (hs : gScr K scr L xs) (hfl : flOk) (h : wR G S T A N X) (hN : N + 40000 ≤ 2 ^ 30) (hij : i + 5 ≤ L) (kk : ∀ S' T' X', wR G S' T' A (N + 40000) X' → Xj K [] G 3276 (lvL scr (ax A) (am A) (ao A) (aoD A) i) [] S' T' c0 s0) : Xj K [] G 2054 (lvL scr (ax A) (am A) (ao A) (aoD A) i) [] S T (c0 + 8) (s0 + 400) := by
  obtain ⟨hx, hm, ho, hn, hoD, hnD⟩ := h.o
  obtain ⟨res, S1, T1, X1, h5, hX1, hc1, h6⟩ := (x_known h (xs (i + 1))).step h
  obtain ⟨h5, rfl, rfl⟩ := h5
  have rest : ∀ (kv : Int32) (S3 S2 : gS) (b : Int32), f_X6_knownSituations G (am A) (xs (i + 1)) S3 = some (b, S2) → wC G S2 T1 A X1 X1 → gI S2 30 (am A) = kv → (kv = 0 → gr S2 (ao A) 0 = b) → Xj K [] G 2067 ((lvL scr (ax A) (am A) (ao A) (aoD A) i).set 6 (some (.int kv))) [] S3 T1 c0 s0 := by
    intro kv S3 S2 b e6 c6 t6 v6
    refine x_aload_n 2 g dL_law_2067 rfl rfl ?_
    refine x_arg g hs (j := 1) rfl rfl rfl (by omega) dL_law_2068 dL_law_2069 dL_law_2071 dL_law_2072 dL_law_2073 ?_
    refine x_cV [.int b] g (k_X6_knownSituations e6) ca_X6_knownSituations in_X6_knownSituations se_X6_knownSituations lm_L_260 gXX6 hm (Nat.le_of_ble_eq_true rfl) rfl rfl (Nat.le_of_ble_eq_true rfl) dL_law_2074 rfl ?_
    refine x_istore g dL_law_2077 (Nat.le_of_ble_eq_true rfl) rfl ?_
    refine x_tailI g (by decide) hm ho hn rfl rfl rfl rfl t6 v6 (by decide) dL_law_2079 dL_law_2080 dL_law_2083 dL_law_2085 dL_law_2090 dL_law_2092 dL_law_2095 dL_law_2096 dL_law_2097 dL_law_2098 dL_law_2100 dL_law_2101 dL_law_2102 dL_law_2107 ?_
    refine x_drp 6 (x_drp 7 ?_)
    exact kk S2 T1 X1 ⟨c6, hX1⟩
  refine x_aload_n 1 g dL_law_2054 rfl rfl ?_
  refine x_arg g hs (j := 1) rfl rfl rfl (by omega) dL_law_2055 dL_law_2056 dL_law_2058 dL_law_2059 dL_law_2060 ?_
  refine x_aload_n 3 g dL_law_2061 rfl rfl ?_
  cases res with
  | inr v =>
    obtain ⟨b, S2, e6, c6, ok, t6, v6⟩ := h6 (sr S1 (ao A) 0 v) (hc1.out (gFr.rfl'.r (by simp)))
    refine x_cSW [.int 0] g (k_L_knownSituations h5 hx ho hn) ca_L_knownSituations st_L_knownSituations lm_L_258 (Nat.le_of_ble_eq_true rfl) (Nat.zero_le _) (Nat.zero_le _) rfl rfl (Nat.le_of_ble_eq_true rfl) dL_law_2062 rfl ?_
    refine x_istore g dL_law_2065 (Nat.le_of_ble_eq_true rfl) rfl ?_
    refine x_less (c1 := c0) (s1 := s0) (by omega) (by omega) ?_
    exact rest 0 _ S2 b e6 c6 t6 (fun _ => ((ok.1 0).trans (gr_sr_at.trans (if_pos rfl))).trans v6.symm)
  | inl E =>
    obtain ⟨b, S2, e6, c6, ok, n, hi, t6⟩ := h6 _ hc1
    rcases n with _ | n
    · have hi : some "java/lang/IndexOutOfBoundsException" = some E := hi
      cases hi
      refine x_cSW [.int 1] g (t_L_knownSituations_1 h5 hx) ca_L_knownSituations st_L_knownSituations lm_L_258 (Nat.le_of_ble_eq_true rfl) (by omega) (by omega) rfl rfl (Nat.le_of_ble_eq_true rfl) dL_law_2062 rfl ?_
      refine x_istore g dL_law_2065 (Nat.le_of_ble_eq_true rfl) rfl ?_
      refine x_less (c1 := c0) (s1 := s0) (by omega) (by omega) ?_
      exact rest 1 _ S2 b e6 c6 t6 (fun z => absurd z (by decide))
    · have hi : (none : Option String) = some E := hi
      cases hi
set_option maxRecDepth 100000 in
theorem cs_26 (g : Gd K RL cL_law 1475) (hs : gScr K scr L xs) (hfl : flOk) (h : wR G S T A N X) (hN : N + 40000 ≤ 2 ^ 30) (hij : i + 5 ≤ L) (kk : ∀ S' T' X', wR G S' T' A (N + 40000) X' → Xj K [] G 3276 (lvL scr (ax A) (am A) (ao A) (aoD A) i) [] S' T' c0 s0) : Xj K [] G 2110 (lvL scr (ax A) (am A) (ao A) (aoD A) i) [] S T (c0 + 8) (s0 + 400) := by
  obtain ⟨hx, hm, ho, hn, hoD, hnD⟩ := h.o
  obtain ⟨res, S1, T1, X1, h5, hX1, hc1, h6⟩ := (x_sitRain h (xs (i + 1)) (xs (i + 2))).step h
  obtain ⟨h5, rfl, rfl⟩ := h5
  have rest : ∀ (kv : Int32) (S3 S2 : gS) (b : Int32), f_X6_situationRain G (am A) (xs (i + 1)) (xs (i + 2)) S3 = some (b, S2) → wC G S2 T1 A X1 X1 → gI S2 30 (am A) = kv → (kv = 0 → gr S2 (ao A) 0 = b) → Xj K [] G 2129 ((lvL scr (ax A) (am A) (ao A) (aoD A) i).set 6 (some (.int kv))) [] S3 T1 c0 s0 := by
    intro kv S3 S2 b e6 c6 t6 v6
    refine x_aload_n 2 g dL_law_2129 rfl rfl ?_
    refine x_arg g hs (j := 1) rfl rfl rfl (by omega) dL_law_2130 dL_law_2131 dL_law_2133 dL_law_2134 dL_law_2135 ?_
    refine x_arg g hs (j := 2) rfl rfl rfl (by omega) dL_law_2136 dL_law_2137 dL_law_2139 dL_law_2140 dL_law_2141 ?_
    refine x_cV [.int b] g (k_X6_situationRain e6) ca_X6_situationRain in_X6_situationRain se_X6_situationRain lm_L_263 gXX6 hm (Nat.le_of_ble_eq_true rfl) rfl rfl (Nat.le_of_ble_eq_true rfl) dL_law_2142 rfl ?_
    refine x_istore g dL_law_2145 (Nat.le_of_ble_eq_true rfl) rfl ?_
    refine x_tailI g (by decide) hm ho hn rfl rfl rfl rfl t6 v6 (by decide) dL_law_2147 dL_law_2148 dL_law_2151 dL_law_2153 dL_law_2158 dL_law_2160 dL_law_2163 dL_law_2164 dL_law_2165 dL_law_2166 dL_law_2168 dL_law_2169 dL_law_2170 dL_law_2175 ?_
    refine x_drp 6 (x_drp 7 ?_)
    exact kk S2 T1 X1 ⟨c6, hX1⟩
  refine x_aload_n 1 g dL_law_2110 rfl rfl ?_
  refine x_arg g hs (j := 1) rfl rfl rfl (by omega) dL_law_2111 dL_law_2112 dL_law_2114 dL_law_2115 dL_law_2116 ?_
  refine x_arg g hs (j := 2) rfl rfl rfl (by omega) dL_law_2117 dL_law_2118 dL_law_2120 dL_law_2121 dL_law_2122 ?_
  refine x_aload_n 3 g dL_law_2123 rfl rfl ?_
  cases res with
  | inr v =>
    obtain ⟨b, S2, e6, c6, ok, t6, v6⟩ := h6 (sr S1 (ao A) 0 v) (hc1.out (gFr.rfl'.r (by simp)))
    refine x_cSW [.int 0] g (k_L_situationRain h5 hx ho hn) ca_L_situationRain st_L_situationRain lm_L_261 (Nat.le_of_ble_eq_true rfl) (Nat.zero_le _) (Nat.zero_le _) rfl rfl (Nat.le_of_ble_eq_true rfl) dL_law_2124 rfl ?_
    refine x_istore g dL_law_2127 (Nat.le_of_ble_eq_true rfl) rfl ?_
    refine x_less (c1 := c0) (s1 := s0) (by omega) (by omega) ?_
    exact rest 0 _ S2 b e6 c6 t6 (fun _ => ((ok.1 0).trans (gr_sr_at.trans (if_pos rfl))).trans v6.symm)
  | inl E =>
    obtain ⟨b, S2, e6, c6, ok, n, hi, t6⟩ := h6 _ hc1
    rcases n with _ | _ | n
    · have hi : some "java/lang/IndexOutOfBoundsException" = some E := hi
      cases hi
      refine x_cSW [.int 1] g (t_L_situationRain_1 h5 hx) ca_L_situationRain st_L_situationRain lm_L_261 (Nat.le_of_ble_eq_true rfl) (by omega) (by omega) rfl rfl (Nat.le_of_ble_eq_true rfl) dL_law_2124 rfl ?_
      refine x_istore g dL_law_2127 (Nat.le_of_ble_eq_true rfl) rfl ?_
      refine x_less (c1 := c0) (s1 := s0) (by omega) (by omega) ?_
      exact rest 1 _ S2 b e6 c6 t6 (fun z => absurd z (by decide))
    · have hi : some "java/util/NoSuchElementException" = some E := hi
      cases hi
      refine x_cSW [.int 2] g (t_L_situationRain_2 h5 hx) ca_L_situationRain st_L_situationRain lm_L_261 (Nat.le_of_ble_eq_true rfl) (by omega) (by omega) rfl rfl (Nat.le_of_ble_eq_true rfl) dL_law_2124 rfl ?_
      refine x_istore g dL_law_2127 (Nat.le_of_ble_eq_true rfl) rfl ?_
      refine x_less (c1 := c0) (s1 := s0) (by omega) (by omega) ?_
      exact rest 2 _ S2 b e6 c6 t6 (fun z => absurd z (by decide))
    · have hi : (none : Option String) = some E := hi
      cases hi
set_option maxRecDepth 100000 in
theorem cs_27 (g : Gd K RL cL_law 1475) (hs : gScr K scr L xs) (hfl : flOk) (h : wR G S T A N X) (hN : N + 40000 ≤ 2 ^ 30) (hij : i + 5 ≤ L) (kk : ∀ S' T' X', wR G S' T' A (N + 40000) X' → Xj K [] G 3276 (lvL scr (ax A) (am A) (ao A) (aoD A) i) [] S' T' c0 s0) : Xj K [] G 2178 (lvL scr (ax A) (am A) (ao A) (aoD A) i) [] S T (c0 + 8) (s0 + 400) := by
  obtain ⟨hx, hm, ho, hn, hoD, hnD⟩ := h.o
  obtain ⟨res, S1, T1, X1, h5, hX1, hc1, h6⟩ := (x_sitWind h (xs (i + 1)) (xs (i + 2))).step h
  obtain ⟨h5, rfl, rfl⟩ := h5
  have rest : ∀ (kv : Int32) (S3 S2 : gS) (b : Int32), f_X6_situationWind G (am A) (xs (i + 1)) (xs (i + 2)) S3 = some (b, S2) → wC G S2 T1 A X1 X1 → gI S2 30 (am A) = kv → (kv = 0 → gr S2 (ao A) 0 = b) → Xj K [] G 2197 ((lvL scr (ax A) (am A) (ao A) (aoD A) i).set 6 (some (.int kv))) [] S3 T1 c0 s0 := by
    intro kv S3 S2 b e6 c6 t6 v6
    refine x_aload_n 2 g dL_law_2197 rfl rfl ?_
    refine x_arg g hs (j := 1) rfl rfl rfl (by omega) dL_law_2198 dL_law_2199 dL_law_2201 dL_law_2202 dL_law_2203 ?_
    refine x_arg g hs (j := 2) rfl rfl rfl (by omega) dL_law_2204 dL_law_2205 dL_law_2207 dL_law_2208 dL_law_2209 ?_
    refine x_cV [.int b] g (k_X6_situationWind e6) ca_X6_situationWind in_X6_situationWind se_X6_situationWind lm_L_266 gXX6 hm (Nat.le_of_ble_eq_true rfl) rfl rfl (Nat.le_of_ble_eq_true rfl) dL_law_2210 rfl ?_
    refine x_istore g dL_law_2213 (Nat.le_of_ble_eq_true rfl) rfl ?_
    refine x_tailI g (by decide) hm ho hn rfl rfl rfl rfl t6 v6 (by decide) dL_law_2215 dL_law_2216 dL_law_2219 dL_law_2221 dL_law_2226 dL_law_2228 dL_law_2231 dL_law_2232 dL_law_2233 dL_law_2234 dL_law_2236 dL_law_2237 dL_law_2238 dL_law_2243 ?_
    refine x_drp 6 (x_drp 7 ?_)
    exact kk S2 T1 X1 ⟨c6, hX1⟩
  refine x_aload_n 1 g dL_law_2178 rfl rfl ?_
  refine x_arg g hs (j := 1) rfl rfl rfl (by omega) dL_law_2179 dL_law_2180 dL_law_2182 dL_law_2183 dL_law_2184 ?_
  refine x_arg g hs (j := 2) rfl rfl rfl (by omega) dL_law_2185 dL_law_2186 dL_law_2188 dL_law_2189 dL_law_2190 ?_
  refine x_aload_n 3 g dL_law_2191 rfl rfl ?_
  cases res with
  | inr v =>
    obtain ⟨b, S2, e6, c6, ok, t6, v6⟩ := h6 (sr S1 (ao A) 0 v) (hc1.out (gFr.rfl'.r (by simp)))
    refine x_cSW [.int 0] g (k_L_situationWind h5 hx ho hn) ca_L_situationWind st_L_situationWind lm_L_264 (Nat.le_of_ble_eq_true rfl) (Nat.zero_le _) (Nat.zero_le _) rfl rfl (Nat.le_of_ble_eq_true rfl) dL_law_2192 rfl ?_
    refine x_istore g dL_law_2195 (Nat.le_of_ble_eq_true rfl) rfl ?_
    refine x_less (c1 := c0) (s1 := s0) (by omega) (by omega) ?_
    exact rest 0 _ S2 b e6 c6 t6 (fun _ => ((ok.1 0).trans (gr_sr_at.trans (if_pos rfl))).trans v6.symm)
  | inl E =>
    obtain ⟨b, S2, e6, c6, ok, n, hi, t6⟩ := h6 _ hc1
    rcases n with _ | _ | n
    · have hi : some "java/lang/IndexOutOfBoundsException" = some E := hi
      cases hi
      refine x_cSW [.int 1] g (t_L_situationWind_1 h5 hx) ca_L_situationWind st_L_situationWind lm_L_264 (Nat.le_of_ble_eq_true rfl) (by omega) (by omega) rfl rfl (Nat.le_of_ble_eq_true rfl) dL_law_2192 rfl ?_
      refine x_istore g dL_law_2195 (Nat.le_of_ble_eq_true rfl) rfl ?_
      refine x_less (c1 := c0) (s1 := s0) (by omega) (by omega) ?_
      exact rest 1 _ S2 b e6 c6 t6 (fun z => absurd z (by decide))
    · have hi : some "java/util/NoSuchElementException" = some E := hi
      cases hi
      refine x_cSW [.int 2] g (t_L_situationWind_2 h5 hx) ca_L_situationWind st_L_situationWind lm_L_264 (Nat.le_of_ble_eq_true rfl) (by omega) (by omega) rfl rfl (Nat.le_of_ble_eq_true rfl) dL_law_2192 rfl ?_
      refine x_istore g dL_law_2195 (Nat.le_of_ble_eq_true rfl) rfl ?_
      refine x_less (c1 := c0) (s1 := s0) (by omega) (by omega) ?_
      exact rest 2 _ S2 b e6 c6 t6 (fun z => absurd z (by decide))
    · have hi : (none : Option String) = some E := hi
      cases hi
set_option maxRecDepth 100000 in
theorem cs_28 (g : Gd K RL cL_law 1475) (hs : gScr K scr L xs) (hfl : flOk) (h : wR G S T A N X) (hN : N + 40000 ≤ 2 ^ 30) (hij : i + 5 ≤ L) (kk : ∀ S' T' X', wR G S' T' A (N + 40000) X' → Xj K [] G 3276 (lvL scr (ax A) (am A) (ao A) (aoD A) i) [] S' T' c0 s0) : Xj K [] G 2246 (lvL scr (ax A) (am A) (ao A) (aoD A) i) [] S T (c0 + 8) (s0 + 400) := by
  obtain ⟨hx, hm, ho, hn, hoD, hnD⟩ := h.o
  obtain ⟨res, S1, T1, X1, h5, hX1, hc1, h6⟩ := (x_hasExam h (xs (i + 1)) (xs (i + 2))).step h
  obtain ⟨h5, rfl, rfl⟩ := h5
  have rest : ∀ (kv : Int32) (S3 S2 : gS) (b : Bool), f_X6_hasExam G (am A) (xs (i + 1)) (xs (i + 2)) S3 = some (b, S2) → wC G S2 T1 A X1 X1 → gI S2 30 (am A) = kv → (kv = 0 → gr S2 (ao A) 0 = gz b) → Xj K [] G 2265 ((lvL scr (ax A) (am A) (ao A) (aoD A) i).set 6 (some (.int kv))) [] S3 T1 c0 s0 := by
    intro kv S3 S2 b e6 c6 t6 v6
    refine x_aload_n 2 g dL_law_2265 rfl rfl ?_
    refine x_arg g hs (j := 1) rfl rfl rfl (by omega) dL_law_2266 dL_law_2267 dL_law_2269 dL_law_2270 dL_law_2271 ?_
    refine x_arg g hs (j := 2) rfl rfl rfl (by omega) dL_law_2272 dL_law_2273 dL_law_2275 dL_law_2276 dL_law_2277 ?_
    refine x_cV [.int (gz b)] g (k_X6_hasExam e6) ca_X6_hasExam in_X6_hasExam se_X6_hasExam lm_L_269 gXX6 hm (Nat.le_of_ble_eq_true rfl) rfl rfl (Nat.le_of_ble_eq_true rfl) dL_law_2278 rfl ?_
    refine x_istore g dL_law_2281 (Nat.le_of_ble_eq_true rfl) rfl ?_
    refine x_tailB g (by decide) hm ho hn rfl rfl rfl rfl t6 v6 (by decide) dL_law_2283 dL_law_2284 dL_law_2287 dL_law_2289 dL_law_2294 dL_law_2296 dL_law_2299 dL_law_2300 dL_law_2301 dL_law_2302 dL_law_2304 dL_law_2307 dL_law_2308 dL_law_2311 dL_law_2312 dL_law_2313 dL_law_2318 ?_
    refine x_drp 6 (x_drp 7 ?_)
    exact kk S2 T1 X1 ⟨c6, hX1⟩
  refine x_aload_n 1 g dL_law_2246 rfl rfl ?_
  refine x_arg g hs (j := 1) rfl rfl rfl (by omega) dL_law_2247 dL_law_2248 dL_law_2250 dL_law_2251 dL_law_2252 ?_
  refine x_arg g hs (j := 2) rfl rfl rfl (by omega) dL_law_2253 dL_law_2254 dL_law_2256 dL_law_2257 dL_law_2258 ?_
  refine x_aload_n 3 g dL_law_2259 rfl rfl ?_
  cases res with
  | inr v =>
    obtain ⟨b, S2, e6, c6, ok, t6, v6⟩ := h6 (sr S1 (ao A) 0 (gz v)) (hc1.out (gFr.rfl'.r (by simp)))
    refine x_cSW [.int 0] g (k_L_hasExam h5 hx ho hn) ca_L_hasExam st_L_hasExam lm_L_267 (Nat.le_of_ble_eq_true rfl) (Nat.zero_le _) (Nat.zero_le _) rfl rfl (Nat.le_of_ble_eq_true rfl) dL_law_2260 rfl ?_
    refine x_istore g dL_law_2263 (Nat.le_of_ble_eq_true rfl) rfl ?_
    refine x_less (c1 := c0) (s1 := s0) (by omega) (by omega) ?_
    exact rest 0 _ S2 b e6 c6 t6 (fun _ => ((ok.1 0).trans (gr_sr_at.trans (if_pos rfl))).trans (congrArg gz v6.symm))
  | inl E =>
    obtain ⟨b, S2, e6, c6, ok, n, hi, t6⟩ := h6 _ hc1
    rcases n with _ | _ | n
    · have hi : some "java/lang/IndexOutOfBoundsException" = some E := hi
      cases hi
      refine x_cSW [.int 1] g (t_L_hasExam_1 h5 hx) ca_L_hasExam st_L_hasExam lm_L_267 (Nat.le_of_ble_eq_true rfl) (by omega) (by omega) rfl rfl (Nat.le_of_ble_eq_true rfl) dL_law_2260 rfl ?_
      refine x_istore g dL_law_2263 (Nat.le_of_ble_eq_true rfl) rfl ?_
      refine x_less (c1 := c0) (s1 := s0) (by omega) (by omega) ?_
      exact rest 1 _ S2 b e6 c6 t6 (fun z => absurd z (by decide))
    · have hi : some "java/lang/IllegalArgumentException" = some E := hi
      cases hi
      refine x_cSW [.int 2] g (t_L_hasExam_2 h5 hx) ca_L_hasExam st_L_hasExam lm_L_267 (Nat.le_of_ble_eq_true rfl) (by omega) (by omega) rfl rfl (Nat.le_of_ble_eq_true rfl) dL_law_2260 rfl ?_
      refine x_istore g dL_law_2263 (Nat.le_of_ble_eq_true rfl) rfl ?_
      refine x_less (c1 := c0) (s1 := s0) (by omega) (by omega) ?_
      exact rest 2 _ S2 b e6 c6 t6 (fun z => absurd z (by decide))
    · have hi : (none : Option String) = some E := hi
      cases hi
set_option maxRecDepth 100000 in
theorem cs_29 (g : Gd K RL cL_law 1475) (hs : gScr K scr L xs) (hfl : flOk) (h : wR G S T A N X) (hN : N + 40000 ≤ 2 ^ 30) (hij : i + 5 ≤ L) (kk : ∀ S' T' X', wR G S' T' A (N + 40000) X' → Xj K [] G 3276 (lvL scr (ax A) (am A) (ao A) (aoD A) i) [] S' T' c0 s0) : Xj K [] G 2321 (lvL scr (ax A) (am A) (ao A) (aoD A) i) [] S T (c0 + 8) (s0 + 400) := by
  obtain ⟨hx, hm, ho, hn, hoD, hnD⟩ := h.o
  obtain ⟨res, S1, T1, X1, h5, hX1, hc1, h6⟩ := (x_grad h (xs (i + 1))).step h
  obtain ⟨h5, rfl, rfl⟩ := h5
  have rest : ∀ (kv : Int32) (S3 S2 : gS) (b : Bool), f_X6_isGraduate G (am A) (xs (i + 1)) S3 = some (b, S2) → wC G S2 T1 A X1 X1 → gI S2 30 (am A) = kv → (kv = 0 → gr S2 (ao A) 0 = gz b) → Xj K [] G 2334 ((lvL scr (ax A) (am A) (ao A) (aoD A) i).set 6 (some (.int kv))) [] S3 T1 c0 s0 := by
    intro kv S3 S2 b e6 c6 t6 v6
    refine x_aload_n 2 g dL_law_2334 rfl rfl ?_
    refine x_arg g hs (j := 1) rfl rfl rfl (by omega) dL_law_2335 dL_law_2336 dL_law_2338 dL_law_2339 dL_law_2340 ?_
    refine x_cV [.int (gz b)] g (k_X6_isGraduate e6) ca_X6_isGraduate in_X6_isGraduate se_X6_isGraduate lm_L_272 gXX6 hm (Nat.le_of_ble_eq_true rfl) rfl rfl (Nat.le_of_ble_eq_true rfl) dL_law_2341 rfl ?_
    refine x_istore g dL_law_2344 (Nat.le_of_ble_eq_true rfl) rfl ?_
    refine x_tailB g (by decide) hm ho hn rfl rfl rfl rfl t6 v6 (by decide) dL_law_2346 dL_law_2347 dL_law_2350 dL_law_2352 dL_law_2357 dL_law_2359 dL_law_2362 dL_law_2363 dL_law_2364 dL_law_2365 dL_law_2367 dL_law_2370 dL_law_2371 dL_law_2374 dL_law_2375 dL_law_2376 dL_law_2381 ?_
    refine x_drp 6 (x_drp 7 ?_)
    exact kk S2 T1 X1 ⟨c6, hX1⟩
  refine x_aload_n 1 g dL_law_2321 rfl rfl ?_
  refine x_arg g hs (j := 1) rfl rfl rfl (by omega) dL_law_2322 dL_law_2323 dL_law_2325 dL_law_2326 dL_law_2327 ?_
  refine x_aload_n 3 g dL_law_2328 rfl rfl ?_
  cases res with
  | inr v =>
    obtain ⟨b, S2, e6, c6, ok, t6, v6⟩ := h6 (sr S1 (ao A) 0 (gz v)) (hc1.out (gFr.rfl'.r (by simp)))
    refine x_cSW [.int 0] g (k_L_isGraduate h5 hx ho hn) ca_L_isGraduate st_L_isGraduate lm_L_270 (Nat.le_of_ble_eq_true rfl) (Nat.zero_le _) (Nat.zero_le _) rfl rfl (Nat.le_of_ble_eq_true rfl) dL_law_2329 rfl ?_
    refine x_istore g dL_law_2332 (Nat.le_of_ble_eq_true rfl) rfl ?_
    refine x_less (c1 := c0) (s1 := s0) (by omega) (by omega) ?_
    exact rest 0 _ S2 b e6 c6 t6 (fun _ => ((ok.1 0).trans (gr_sr_at.trans (if_pos rfl))).trans (congrArg gz v6.symm))
  | inl E =>
    obtain ⟨b, S2, e6, c6, ok, n, hi, t6⟩ := h6 _ hc1
    rcases n with _ | n
    · have hi : some "java/lang/IndexOutOfBoundsException" = some E := hi
      cases hi
      refine x_cSW [.int 1] g (t_L_isGraduate_1 h5 hx) ca_L_isGraduate st_L_isGraduate lm_L_270 (Nat.le_of_ble_eq_true rfl) (by omega) (by omega) rfl rfl (Nat.le_of_ble_eq_true rfl) dL_law_2329 rfl ?_
      refine x_istore g dL_law_2332 (Nat.le_of_ble_eq_true rfl) rfl ?_
      refine x_less (c1 := c0) (s1 := s0) (by omega) (by omega) ?_
      exact rest 1 _ S2 b e6 c6 t6 (fun z => absurd z (by decide))
    · have hi : (none : Option String) = some E := hi
      cases hi
set_option maxRecDepth 100000 in
theorem cs_30 (g : Gd K RL cL_law 1475) (hs : gScr K scr L xs) (hfl : flOk) (h : wR G S T A N X) (hN : N + 40000 ≤ 2 ^ 30) (hij : i + 5 ≤ L) (kk : ∀ S' T' X', wR G S' T' A (N + 40000) X' → Xj K [] G 3276 (lvL scr (ax A) (am A) (ao A) (aoD A) i) [] S' T' c0 s0) : Xj K [] G 2384 (lvL scr (ax A) (am A) (ao A) (aoD A) i) [] S T (c0 + 8) (s0 + 400) := by
  obtain ⟨hx, hm, ho, hn, hoD, hnD⟩ := h.o
  obtain ⟨res, S1, T1, X1, h5, hX1, hc1, h6⟩ := (x_total h (xs (i + 1))).step h
  obtain ⟨h5, rfl, rfl⟩ := h5
  have rest : ∀ (kv : Int32) (S3 S2 : gS) (b : Int32), f_X6_totalReward G (am A) (xs (i + 1)) S3 = some (b, S2) → wC G S2 T1 A X1 X1 → gI S2 30 (am A) = kv → (kv = 0 → gr S2 (ao A) 0 = b) → Xj K [] G 2397 ((lvL scr (ax A) (am A) (ao A) (aoD A) i).set 6 (some (.int kv))) [] S3 T1 c0 s0 := by
    intro kv S3 S2 b e6 c6 t6 v6
    refine x_aload_n 2 g dL_law_2397 rfl rfl ?_
    refine x_arg g hs (j := 1) rfl rfl rfl (by omega) dL_law_2398 dL_law_2399 dL_law_2401 dL_law_2402 dL_law_2403 ?_
    refine x_cV [.int b] g (k_X6_totalReward e6) ca_X6_totalReward in_X6_totalReward se_X6_totalReward lm_L_275 gXX6 hm (Nat.le_of_ble_eq_true rfl) rfl rfl (Nat.le_of_ble_eq_true rfl) dL_law_2404 rfl ?_
    refine x_istore g dL_law_2407 (Nat.le_of_ble_eq_true rfl) rfl ?_
    refine x_tailI g (by decide) hm ho hn rfl rfl rfl rfl t6 v6 (by decide) dL_law_2409 dL_law_2410 dL_law_2413 dL_law_2415 dL_law_2420 dL_law_2422 dL_law_2425 dL_law_2426 dL_law_2427 dL_law_2428 dL_law_2430 dL_law_2431 dL_law_2432 dL_law_2437 ?_
    refine x_drp 6 (x_drp 7 ?_)
    exact kk S2 T1 X1 ⟨c6, hX1⟩
  refine x_aload_n 1 g dL_law_2384 rfl rfl ?_
  refine x_arg g hs (j := 1) rfl rfl rfl (by omega) dL_law_2385 dL_law_2386 dL_law_2388 dL_law_2389 dL_law_2390 ?_
  refine x_aload_n 3 g dL_law_2391 rfl rfl ?_
  cases res with
  | inr v =>
    obtain ⟨b, S2, e6, c6, ok, t6, v6⟩ := h6 (sr S1 (ao A) 0 v) (hc1.out (gFr.rfl'.r (by simp)))
    refine x_cSW [.int 0] g (k_L_totalReward h5 hx ho hn) ca_L_totalReward st_L_totalReward lm_L_273 (Nat.le_of_ble_eq_true rfl) (Nat.zero_le _) (Nat.zero_le _) rfl rfl (Nat.le_of_ble_eq_true rfl) dL_law_2392 rfl ?_
    refine x_istore g dL_law_2395 (Nat.le_of_ble_eq_true rfl) rfl ?_
    refine x_less (c1 := c0) (s1 := s0) (by omega) (by omega) ?_
    exact rest 0 _ S2 b e6 c6 t6 (fun _ => ((ok.1 0).trans (gr_sr_at.trans (if_pos rfl))).trans v6.symm)
  | inl E =>
    obtain ⟨b, S2, e6, c6, ok, n, hi, t6⟩ := h6 _ hc1
    rcases n with _ | n
    · have hi : some "java/lang/IndexOutOfBoundsException" = some E := hi
      cases hi
      refine x_cSW [.int 1] g (t_L_totalReward_1 h5 hx) ca_L_totalReward st_L_totalReward lm_L_273 (Nat.le_of_ble_eq_true rfl) (by omega) (by omega) rfl rfl (Nat.le_of_ble_eq_true rfl) dL_law_2392 rfl ?_
      refine x_istore g dL_law_2395 (Nat.le_of_ble_eq_true rfl) rfl ?_
      refine x_less (c1 := c0) (s1 := s0) (by omega) (by omega) ?_
      exact rest 1 _ S2 b e6 c6 t6 (fun z => absurd z (by decide))
    · have hi : (none : Option String) = some E := hi
      cases hi
set_option maxRecDepth 100000 in
theorem cs_31 (g : Gd K RL cL_law 1475) (hs : gScr K scr L xs) (hfl : flOk) (h : wR G S T A N X) (hN : N + 40000 ≤ 2 ^ 30) (hij : i + 5 ≤ L) (kk : ∀ S' T' X', wR G S' T' A (N + 40000) X' → Xj K [] G 3276 (lvL scr (ax A) (am A) (ao A) (aoD A) i) [] S' T' c0 s0) : Xj K [] G 2440 (lvL scr (ax A) (am A) (ao A) (aoD A) i) [] S T (c0 + 8) (s0 + 400) := by
  obtain ⟨hx, hm, ho, hn, hoD, hnD⟩ := h.o
  obtain ⟨res, S1, T1, X1, h5, hX1, hc1, h6⟩ := (x_termR h (xs (i + 1))).step h
  obtain ⟨h5, rfl, rfl⟩ := h5
  have rest : ∀ (kv : Int32) (S3 S2 : gS) (b : Int32), f_X6_termReward G (am A) (xs (i + 1)) S3 = some (b, S2) → wC G S2 T1 A X1 X1 → gI S2 30 (am A) = kv → (kv = 0 → gr S2 (ao A) 0 = b) → Xj K [] G 2453 ((lvL scr (ax A) (am A) (ao A) (aoD A) i).set 6 (some (.int kv))) [] S3 T1 c0 s0 := by
    intro kv S3 S2 b e6 c6 t6 v6
    refine x_aload_n 2 g dL_law_2453 rfl rfl ?_
    refine x_arg g hs (j := 1) rfl rfl rfl (by omega) dL_law_2454 dL_law_2455 dL_law_2457 dL_law_2458 dL_law_2459 ?_
    refine x_cV [.int b] g (k_X6_termReward e6) ca_X6_termReward in_X6_termReward se_X6_termReward lm_L_278 gXX6 hm (Nat.le_of_ble_eq_true rfl) rfl rfl (Nat.le_of_ble_eq_true rfl) dL_law_2460 rfl ?_
    refine x_istore g dL_law_2463 (Nat.le_of_ble_eq_true rfl) rfl ?_
    refine x_tailI g (by decide) hm ho hn rfl rfl rfl rfl t6 v6 (by decide) dL_law_2465 dL_law_2466 dL_law_2469 dL_law_2471 dL_law_2476 dL_law_2478 dL_law_2481 dL_law_2482 dL_law_2483 dL_law_2484 dL_law_2486 dL_law_2487 dL_law_2488 dL_law_2493 ?_
    refine x_drp 6 (x_drp 7 ?_)
    exact kk S2 T1 X1 ⟨c6, hX1⟩
  refine x_aload_n 1 g dL_law_2440 rfl rfl ?_
  refine x_arg g hs (j := 1) rfl rfl rfl (by omega) dL_law_2441 dL_law_2442 dL_law_2444 dL_law_2445 dL_law_2446 ?_
  refine x_aload_n 3 g dL_law_2447 rfl rfl ?_
  cases res with
  | inr v =>
    obtain ⟨b, S2, e6, c6, ok, t6, v6⟩ := h6 (sr S1 (ao A) 0 v) (hc1.out (gFr.rfl'.r (by simp)))
    refine x_cSW [.int 0] g (k_L_termReward h5 hx ho hn) ca_L_termReward st_L_termReward lm_L_276 (Nat.le_of_ble_eq_true rfl) (Nat.zero_le _) (Nat.zero_le _) rfl rfl (Nat.le_of_ble_eq_true rfl) dL_law_2448 rfl ?_
    refine x_istore g dL_law_2451 (Nat.le_of_ble_eq_true rfl) rfl ?_
    refine x_less (c1 := c0) (s1 := s0) (by omega) (by omega) ?_
    exact rest 0 _ S2 b e6 c6 t6 (fun _ => ((ok.1 0).trans (gr_sr_at.trans (if_pos rfl))).trans v6.symm)
  | inl E =>
    obtain ⟨b, S2, e6, c6, ok, n, hi, t6⟩ := h6 _ hc1
    rcases n with _ | n
    · have hi : some "java/lang/IndexOutOfBoundsException" = some E := hi
      cases hi
      refine x_cSW [.int 1] g (t_L_termReward_1 h5 hx) ca_L_termReward st_L_termReward lm_L_276 (Nat.le_of_ble_eq_true rfl) (by omega) (by omega) rfl rfl (Nat.le_of_ble_eq_true rfl) dL_law_2448 rfl ?_
      refine x_istore g dL_law_2451 (Nat.le_of_ble_eq_true rfl) rfl ?_
      refine x_less (c1 := c0) (s1 := s0) (by omega) (by omega) ?_
      exact rest 1 _ S2 b e6 c6 t6 (fun z => absurd z (by decide))
    · have hi : (none : Option String) = some E := hi
      cases hi
end CASE3
