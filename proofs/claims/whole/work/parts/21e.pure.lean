/-! the reference: terms, ranks, sums, situations -/
section QY
variable {G : gG} {S : gS} {m : Nat} {r : Nat → Nat} {w : Nat → Int32} {M : mB} {N u : Nat}
-- the end of a term
theorem rowR.field (hR : rowR w M) (hl : ∀ i, i < mc M → (M.2 i).2.length ≤ 20) (h6 : mc M ≤ 6) (hu : u < mc M) {f : Nat} (hf : f < 8) {v : Int32} : rowR (upd w (8 + 28 * u + f) v) (mSet M u (upd (M.2 u).1 f v, (M.2 u).2)) := by
  refine ⟨fun k hk => (upd_ne (by omega)).trans (hR.1 k hk), fun i hi => ?_⟩
  have hi : i < mc M := hi
  show rowU _ i (if i = u then _ else M.2 i)
  by_cases c : i = u
  · subst c
    rw [if_pos rfl]
    refine ⟨fun k hk => ?_, fun k t hk => ?_⟩
    · show _ = upd (M.2 i).1 f v k
      by_cases q : k = f
      · subst q; rw [upd_at, upd_at]
      · rw [upd_ne q, upd_ne (by omega)]; exact (hR.2 i hi).1 k hk
    · have := (List.getElem?_eq_some_iff.mp hk).1
      rw [upd_ne (by omega)]
      exact (hR.2 i hi).2 k t hk
  · rw [if_neg c]
    exact (hR.2 i hi).cong (hl i hi) (fun j h1 h2 => upd_ne (by omega))
theorem q_term_L2 (h : mSh G S m r) {kO : Int32 → Int32 → gS → Option (Int32 × gS)} (v : Int32) : ∀ (n k : Nat) (M : mB) (w : Nat → Int32), rowR w M → M.1 0 = nI (mc M) → mc M ≤ 6 → (∀ i, i < mc M → (M.2 i).2.length ≤ 20) → k ≤ mc M → mc M - k < n → wp (f_X6_endsTerm_L47 G m kO n v (nI k) (srow S (r 0) w)) (fun y => y.1 = v ∧ ∃ w', y.2 = srow S (r 0) w' ∧ rowR w' (mZero M k)) := by
  obtain ⟨h1, h2, h3, h4⟩ := w_ok h (k := 0) (n := 0) rfl (by decide)
  have v3 := (w_ok h (k := 3) (n := 3) rfl (by decide)).2.2.1
  intro n
  induction n with
  | zero => intro k M w _ _ _ _ _ hn; omega
  | succ n ih =>
    intro k M w hR h0 h6 hl hk hn
    have hc : w 0 = nI (mc M) := (hR.1 0 (by decide)).trans h0
    rw [f_X6_endsTerm_L47]
    refine wp_gd h.1 (wp_gb (show gP (srow S (r 0) w) 10 m = some (r 0) from h1) (wp_gd h2 (wp_gd h3 ?_)))
    rw [h4, gr_same, hc]
    by_cases c : mc M ≤ k
    · refine wp_t (nI_le c (by omega)) (wp_gb (show gP (srow S (r 0) w) 10 m = some (r 0) from h1) (wp_gd h2 (wp_gd v3 (wp_gd v3 (wp_glt (fun S1 e1 => wp_ret ?_))))))
      rw [show Int32.toNatClampNeg 3 = 3 from rfl, sr_row, gr_same] at e1
      refine ⟨rfl, _, e1, ?_⟩
      have g : mZero M k = (upd M.1 3 (M.1 3 + 1), M.2) := by
        unfold mZero
        congr 1
        funext j
        rw [if_neg (by omega)]
      rw [g]
      refine hR.nums hl (upd_ne (by decide)) (fun j hj => ?_) (fun i hi => upd_ne (by omega))
      by_cases q : j = 3
      · subst q; rw [upd_at, upd_at, hR.1 3 (by decide)]
      · rw [upd_ne q, upd_ne q]; exact hR.1 j hj
    · refine wp_f (nI_ge (by omega) (by omega)) (wp_gb (r_puts h (v := k) (k := 5) 0 rfl rfl (by omega)) (wp_glt (fun z ez => ?_)))
      rw [nI_1] at ez
      subst ez
      have r1 := hR.field hl h6 (show k < mc M by omega) (f := 5) (by decide) (v := 0)
      have g : mZero M k = mZero (mSet M k (upd (M.2 k).1 5 0, (M.2 k).2)) (k + 1) := by
        unfold mZero
        show (_, _) = (_, _)
        congr 1
        funext j
        show (if k ≤ j ∧ j < mc M then _ else _) = if k + 1 ≤ j ∧ j < mc M then (upd (if j = k then (upd (M.2 k).1 5 0, (M.2 k).2) else M.2 j : mU).1 5 0, (if j = k then (upd (M.2 k).1 5 0, (M.2 k).2) else M.2 j : mU).2) else (if j = k then (upd (M.2 k).1 5 0, (M.2 k).2) else M.2 j : mU)
        by_cases q : j = k
        · subst q
          rw [if_pos (show j ≤ j ∧ j < mc M by omega), if_neg (show ¬ (j + 1 ≤ j ∧ j < mc M) by omega), if_pos rfl]
        · rw [if_neg q]
          by_cases q2 : k ≤ j ∧ j < mc M
          · rw [if_pos q2, if_pos (show k + 1 ≤ j ∧ j < mc M by omega)]
          · rw [if_neg q2, if_neg (show ¬ (k + 1 ≤ j ∧ j < mc M) by omega)]
      rw [g]
      refine ih (k + 1) (mSet M k (upd (M.2 k).1 5 0, (M.2 k).2)) _ r1 h0 h6 (fun i hi => ?_) (show k + 1 ≤ mc M by omega) (show mc M - (k + 1) < n by omega)
      show ((if i = k then (upd (M.2 k).1 5 0, (M.2 k).2) else M.2 i : mU)).2.length ≤ 20
      by_cases q : i = k
      · rw [if_pos q]; exact hl k (by omega)
      · rw [if_neg q]; exact hl i hi
theorem q_best_L (h : mSh G S m r) (hR : rowR w M) (hW : bW N M) (h1 : 0 < mc M) : ∀ (n k : Nat), 1 ≤ k → k ≤ mc M → mc M - k < n → wp (f_X6_endsTerm_L4 G m n (nI (mBest M.2 k)) (nI k) (srow S (r 0) w)) (fun y => y.1 = nI (mBest M.2 (mc M)) ∧ ∃ w', y.2 = srow S (r 0) w' ∧ rowR w' (mTerm M)) := by
  have h6 := hW.1.2
  have hl : ∀ i, i < mc M → (M.2 i).2.length ≤ 20 := fun i hi => (hW.2.2.2.1 i hi).cap
  obtain ⟨h1', h2, h3, h4⟩ := w_ok h (k := 0) (n := 0) rfl (by decide)
  intro n
  induction n with
  | zero => intro k _ _ hn; omega
  | succ n ih =>
    intro k hk1 hk hn
    have hb := mBest_lt M.2 k (by omega)
    rw [f_X6_endsTerm_L4]
    refine wp_gd h.1 (wp_gb (show gP (srow S (r 0) w) 10 m = some (r 0) from h1') (wp_gd h2 (wp_gd h3 ?_)))
    rw [h4, gr_same, q_cnt hR hW]
    by_cases c : mc M ≤ k
    · have ek : k = mc M := by omega
      subst ek
      refine wp_t (nI_le c (by omega)) (wp_gb (r_adds h (v := mBest M.2 (mc M)) (k := 6) 1 rfl rfl (by omega)) ?_)
      have e6 : w (8 + 28 * mBest M.2 (mc M) + 6) = (M.2 (mBest M.2 (mc M))).1 6 := (hR.2 _ hb).1 6 (by decide)
      rw [e6]
      have r1 := hR.field hl h6 hb (f := 6) (by decide) (v := (M.2 (mBest M.2 (mc M))).1 6 + 1)
      refine q_term_L2 h (nI (mBest M.2 (mc M))) gN 0 (mStar M) _ r1 hW.1.1 h6 (fun i hi => ?_) (Nat.zero_le _) (by rw [gN_e]; show mc M - 0 < _; omega)
      show ((if i = mBest M.2 (mc M) then _ else M.2 i : mU)).2.length ≤ 20
      by_cases q : i = mBest M.2 (mc M)
      · rw [if_pos q]; exact hl _ hb
      · rw [if_neg q]; exact hl i hi
    · refine wp_f (nI_ge (by omega) (by omega)) (wp_gb (r_of h (v := k) (k := 5) rfl rfl (by omega)) (wp_gb (r_of h (v := mBest M.2 k) (k := 5) rfl rfl (by omega)) ?_))
      have e1 : w (8 + 28 * k + 5) = (M.2 k).1 5 := (hR.2 k (by omega)).1 5 (by decide)
      have e2 : w (8 + 28 * mBest M.2 k + 5) = (M.2 (mBest M.2 k)).1 5 := (hR.2 _ (by omega)).1 5 (by decide)
      rw [e1, e2]
      have next := ih (k + 1) (by omega) (by omega) (by omega)
      have eb : mBest M.2 (k + 1) = if (M.2 (mBest M.2 k)).1 5 < (M.2 k).1 5 then k else mBest M.2 k := rfl
      by_cases c2 : (M.2 k).1 5 ≤ (M.2 (mBest M.2 k)).1 5
      · refine wp_t c2 (wp_glt (fun z ez => ?_))
        rw [nI_1] at ez
        subst ez
        rw [eb, if_neg (Int32.not_lt.mpr c2)] at next
        exact next
      · refine wp_f c2 (wp_glt (fun z ez => ?_))
        rw [nI_1] at ez
        subst ez
        rw [eb, if_pos (Int32.not_le.mp c2)] at next
        exact next
theorem q_term (h : mSh G S m r) (hR : rowR w M) (hW : bW N M) (h1 : 0 < mc M) : wp (f_X6_endsTerm G m (srow S (r 0) w)) (fun y => y.1 = nI (mBest M.2 (mc M)) ∧ ∃ w', y.2 = srow S (r 0) w' ∧ rowR w' (mTerm M)) := by
  have h6 := hW.1.2
  have e : mBest M.2 1 = 0 := by
    show (if (M.2 0).1 5 < (M.2 0).1 5 then 0 else 0) = 0
    split <;> rfl
  have := q_best_L h hR hW h1 gN 1 (by omega) (by omega) (by rw [gN_e]; omega)
  rw [e] at this
  exact this
-- ranks
theorem sub_le {p q : Int32} (hp : -(2 ^ 30 : Int) < p.toInt ∧ p.toInt < 2 ^ 30) (hq : -(2 ^ 30 : Int) < q.toInt ∧ q.toInt < 2 ^ 30) : (p - q ≤ 0 ↔ p ≤ q) ∧ (p - q = 0 ↔ p = q) := by
  have e : (p - q).toInt = p.toInt - q.toInt := by
    rw [Int32.toInt_sub]
    exact Int.bmod_eq_of_le (by omega) (by omega)
  refine ⟨?_, ?_⟩
  · rw [Int32.le_iff_toInt_le, Int32.le_iff_toInt_le, e, show (0 : Int32).toInt = 0 from rfl]
    omega
  · rw [← Int32.toInt_inj, ← Int32.toInt_inj, e, show (0 : Int32).toInt = 0 from rfl]
    omega
theorem q_ahead (h : mSh G S m r) (hR : rowR w M) (hW : bW N M) (hN : N < 2 ^ 30) {i j : Nat} (hi : i < mc M) (hj : j < mc M) : f_X6_isAhead G m (nI i) (nI j) (srow S (r 0) w) = some (mAh M.2 i j) := by
  have h6 := hW.1.2
  obtain ⟨-, -, -, -, -, ⟨si, si1, si2⟩, ti1, ti2⟩ := hW.2.2.2.1 i hi
  obtain ⟨-, -, -, -, -, ⟨sj, sj1, sj2⟩, tj1, tj2⟩ := hW.2.2.2.1 j hj
  have s1 : ((M.2 i).1 6).toInt = si := by rw [si2, nI_toInt (by omega)]
  have s2 : ((M.2 j).1 6).toInt = sj := by rw [sj2, nI_toInt (by omega)]
  obtain ⟨a1, a2⟩ := sub_le (p := (M.2 i).1 6) (q := (M.2 j).1 6) (by omega) (by omega)
  obtain ⟨b1, b2⟩ := sub_le (p := (M.2 i).1 4) (q := (M.2 j).1 4) (by omega) (by omega)
  unfold f_X6_isAhead
  rw [gd_i h.1, r_of h (v := i) (k := 6) (b := 6) rfl rfl (by omega), gb_S, r_of h (v := j) (k := 6) (b := 6) rfl rfl (by omega), gb_S, glt_S, r_of h (v := i) (k := 4) (b := 4) rfl rfl (by omega), gb_S, r_of h (v := j) (k := 4) (b := 4) rfl rfl (by omega), gb_S, glt_S, (hR.2 i hi).1 6 (by decide), (hR.2 j hj).1 6 (by decide), (hR.2 i hi).1 4 (by decide), (hR.2 j hj).1 4 (by decide)]
  unfold mAh mRk
  by_cases c : (M.2 i).1 6 = (M.2 j).1 6
  · rw [if_pos (a2.mpr c), if_pos c, if_pos c.symm]
    by_cases c2 : (M.2 i).1 4 = (M.2 j).1 4
    · rw [if_pos (b2.mpr c2), c2, decide_eq_false (Int32.not_lt.mpr (Int32.le_refl _))]
      by_cases c3 : j ≤ i
      · rw [if_pos (nI_le c3 (by omega)), decide_eq_false (show ¬ i < j by omega)]; rfl
      · rw [if_neg (nI_ge (by omega) (by omega)), decide_eq_true (show i < j by omega)]; rfl
    · rw [if_neg (fun q => c2 (b2.mp q))]
      by_cases c3 : (M.2 i).1 4 ≤ (M.2 j).1 4
      · rw [if_pos (b1.mpr c3), decide_eq_false (Int32.not_lt.mpr c3), decide_eq_true (Int32.lt_of_le_of_ne c3 c2)]
        cases decide (i < j) <;> rfl
      · rw [if_neg (fun q => c3 (b1.mp q)), decide_eq_true (Int32.not_le.mp c3)]; rfl
  · rw [if_neg (fun q => c (a2.mp q)), if_neg c, if_neg (show ¬ (M.2 j).1 6 = (M.2 i).1 6 from fun q => c q.symm)]
    by_cases c3 : (M.2 i).1 6 ≤ (M.2 j).1 6
    · rw [if_pos (a1.mpr c3), decide_eq_false (Int32.not_lt.mpr c3), decide_eq_true (Int32.lt_of_le_of_ne c3 c)]
      cases decide (i < j) <;> rfl
    · rw [if_neg (fun q => c3 (a1.mp q)), decide_eq_true (Int32.not_le.mp c3)]; rfl
theorem q_rank_L2 (h : mSh G S m r) (hR : rowR w M) (hW : bW N M) (hN : N < 2 ^ 30) (v : Int32) {kO : Int32 → gS → Option (Int32 × gS)} {j : Nat} (hj : j < mc M) : ∀ (n k : Nat) (s : Int32), k ≤ mc M → mc M - k < n → f_X6_umbrellaByStars_L22 G m v kO n (nI j) s (nI k) (srow S (r 0) w) = if s + dS (fun i => if mAh M.2 i j = true then 1 else 0) (mc M) (mc M - k) = v then some (nI j, srow S (r 0) w) else kO (nI (j + 1)) (srow S (r 0) w) := by
  have h6 := hW.1.2
  obtain ⟨h1, h2, h3, h4⟩ := w_ok h (k := 0) (n := 0) rfl (by decide)
  intro n
  induction n with
  | zero => intro k s _ hn; omega
  | succ n ih =>
    intro k s hk hn
    rw [f_X6_umbrellaByStars_L22, gd_i h.1, show gP (srow S (r 0) w) 10 m = some (r 0) from h1, gb_S, gd_i h2, gd_i h3, h4, gr_same, q_cnt hR hW]
    by_cases c : mc M ≤ k
    · rw [if_pos (nI_le c (by omega)), dS_end _ c, Int32.add_zero, glt_S, nI_1]
    · rw [if_neg (nI_ge (by omega) (by omega)), q_ahead h hR hW hN (show k < mc M by omega) hj, gb_S, dS_at _ (show k < mc M by omega)]
      cases ha : mAh M.2 k j with
      | true => rw [if_neg (show ¬ gz true = 0 by decide), show (if true = true then (1 : Int32) else 0) = 1 from rfl, glt_S, glt_S, nI_1, ih (k + 1) _ (by omega) (by omega), Int32.add_assoc]
      | false => rw [if_pos (show gz false = 0 from rfl), show (if false = true then (1 : Int32) else 0) = 0 from rfl, glt_S, glt_S, nI_1, ih (k + 1) _ (by omega) (by omega), Int32.add_assoc]
theorem q_rank_L (h : mSh G S m r) (hR : rowR w M) (hW : bW N M) (hN : N < 2 ^ 30) (v : Int32) : ∀ (n k : Nat), k ≤ mc M → mc M - k < n → f_X6_umbrellaByStars_L7 G m v n (nI k) (srow S (r 0) w) = match dF (fun i => decide (mPos M i = v)) (mc M) (mc M - k) with | some i => some (nI i, srow S (r 0) w) | none => some (0, sI (srow S (r 0) w) 30 m 1) := by
  have h6 := hW.1.2
  obtain ⟨h1, h2, h3, h4⟩ := w_ok h (k := 0) (n := 0) rfl (by decide)
  intro n
  induction n with
  | zero => intro k _ hn; omega
  | succ n ih =>
    intro k hk hn
    rw [f_X6_umbrellaByStars_L7, gd_i h.1, show gP (srow S (r 0) w) 10 m = some (r 0) from h1, gb_S, gd_i h2, gd_i h3, h4, gr_same, q_cnt hR hW]
    by_cases c : mc M ≤ k
    · rw [if_pos (nI_le c (by omega)), dF_end _ c]
      unfold f_X6_fails
      rw [gd_i h.1, glt_S, gb2_S]
    · have hz := q_rank_L2 (kO := fun y2 Sy => f_X6_umbrellaByStars_L7 G m v n y2 Sy) h hR hW hN v (show k < mc M by omega) gN 0 0 (Nat.zero_le _) (by rw [gN_e]; omega)
      rw [nI_0] at hz
      rw [if_neg (nI_ge (by omega) (by omega)), hz, dF_at _ (show k < mc M by omega), Int32.zero_add, ih (k + 1) (by omega) (by omega)]
      show (if mPos M k = v then _ else _) = _
      by_cases c2 : mPos M k = v
      · rw [if_pos c2, if_pos (decide_eq_true c2)]
      · rw [if_neg c2, if_neg (by rw [decide_eq_false c2]; decide)]
theorem q_total_L (h : mSh G S m r) (hR : rowR w M) (hW : bW N M) : ∀ (n k : Nat) (s : Int32), k ≤ mc M → mc M - k < n → f_X6_rewardAll_L4 G m (srow S (r 0) w) n s (nI k) = some (s + dS (fun i => (M.2 i).1 4) (mc M) (mc M - k)) := by
  have h6 := hW.1.2
  obtain ⟨h1, h2, h3, h4⟩ := w_ok h (k := 0) (n := 0) rfl (by decide)
  intro n
  induction n with
  | zero => intro k s _ hn; omega
  | succ n ih =>
    intro k s hk hn
    rw [f_X6_rewardAll_L4, gd_i h.1, show gP (srow S (r 0) w) 10 m = some (r 0) from h1, gb_S, gd_i h2, gd_i h3, h4, gr_same, q_cnt hR hW]
    by_cases c : mc M ≤ k
    · rw [if_pos (nI_le c (by omega)), dS_end _ c, Int32.add_zero]
    · rw [if_neg (nI_ge (by omega) (by omega)), r_of h (v := k) (k := 4) (b := 4) rfl rfl (by omega), gb_S, (hR.2 k (by omega)).1 4 (by decide), glt_S, glt_S, nI_1, ih (k + 1) _ (by omega) (by omega), dS_at _ (show k < mc M by omega), Int32.add_assoc]
theorem q_total (h : mSh G S m r) (hR : rowR w M) (hW : bW N M) : f_X6_rewardAll G m (srow S (r 0) w) = some (mSum M 4) := by
  have h6 := hW.1.2
  have := q_total_L h hR hW gN 0 0 (Nat.zero_le _) (by rw [gN_e]; omega)
  rw [Int32.zero_add] at this
  exact this
theorem q_okay_L (h : mSh G S m r) (hR : rowR w M) (hW : bW N M) : ∀ (n k : Nat) (s : Int32), k ≤ mc M → mc M - k < n → f_X6_isConsistent_L9 G m n s (nI k) (srow S (r 0) w) = some (decide (s + dS (fun i => (M.2 i).1 6) (mc M) (mc M - k) = M.1 3 ∧ mSum M 4 = M.1 4 + M.1 5), srow S (r 0) w) := by
  have h6 := hW.1.2
  obtain ⟨h1, h2, h3, h4⟩ := w_ok h (k := 0) (n := 0) rfl (by decide)
  have v3 := (w_ok h (k := 3) (n := 3) rfl (by decide)).2.2
  have v4 := (w_ok h (k := 4) (n := 4) rfl (by decide)).2.2
  have v5 := (w_ok h (k := 5) (n := 5) rfl (by decide)).2.2
  intro n
  induction n with
  | zero => intro k s _ hn; omega
  | succ n ih =>
    intro k s hk hn
    rw [f_X6_isConsistent_L9, gd_i h.1, show gP (srow S (r 0) w) 10 m = some (r 0) from h1, gb_S, gd_i h2, gd_i h3, h4, gr_same, q_cnt hR hW]
    by_cases c : mc M ≤ k
    · rw [if_pos (nI_le c (by omega)), dS_end _ c, Int32.add_zero, gb_S, gd_i h2, gd_i v3.1, v3.2, gr_same, hR.1 3 (by decide)]
      by_cases c1 : s = M.1 3
      · rw [if_pos c1, q_total h hR hW, gb_S, gb_S, gd_i h2, gd_i v4.1, gb_S, gd_i h2, gd_i v5.1, v4.2, v5.2, gr_same, hR.1 4 (by decide), hR.1 5 (by decide)]
        by_cases c2 : mSum M 4 = M.1 4 + M.1 5
        · rw [if_pos c2, decide_eq_true ⟨c1, c2⟩]
        · rw [if_neg c2, decide_eq_false (fun q => c2 q.2)]
      · rw [if_neg c1, decide_eq_false (fun q => c1 q.1)]
    · have hU := hW.2.2.2.1 k (by omega)
      have hk' := hR.2 k (by omega)
      have g : (M.2 k).1 3 ≤ (M.2 k).1 0 := by
        obtain ⟨cap, q1, q2, q3, q4⟩ := hU.1
        rw [q1, hU.2.2.1]
        exact nI_le q4 (by omega)
      rw [if_neg (nI_ge (by omega) (by omega)), r_of h (v := k) (k := 6) (b := 6) rfl rfl (by omega), gb_S, glt_S, r_of h (v := k) (k := 3) (b := 3) rfl rfl (by omega), gb_S, r_of h (v := k) (k := 0) (b := 0) rfl rfl (by omega), gb_S, hk'.1 6 (by decide), hk'.1 3 (by decide), hk'.1 0 (by decide), if_pos g, glt_S, nI_1, ih (k + 1) _ (by omega) (by omega), dS_at _ (show k < mc M by omega), Int32.add_assoc]
theorem q_okay (h : mSh G S m r) (hR : rowR w M) (hW : bW N M) : f_X6_isConsistent_L9 G m gN 0 0 (srow S (r 0) w) = some (mOkay M, srow S (r 0) w) := by
  have h6 := hW.1.2
  have := q_okay_L h hR hW gN 0 0 (Nat.zero_le _) (by rw [gN_e]; omega)
  rw [Int32.zero_add] at this
  exact this
-- situations
theorem q_sit {k : Nat} (hk : k < 16) : nI k / 4 = nI (k / 4) ∧ nI k - nI k / 4 * 4 = nI (k % 4) ∧ 4 * (k / 4) + k % 4 = k := by
  rw [show (4 : Int32) = nI 4 from rfl, nI_rem (by omega) (by decide), nI_div (by omega) (by decide)]
  exact ⟨rfl, rfl, by omega⟩
theorem q_tin (h : mSh G S m r) (hR : rowR w M) (hW : bW N M) {k : Nat} {a b : Int32} (ha : a = nI u) (hb : b = nI k) (hu : u < mc M) (hk : k < 16) : f_X6_trialsIn G m a b (srow S (r 0) w) = some (nI (mTi (M.2 u).2 k)) := by
  subst hb
  have hu6 : u < 6 := by have := hW.1.2; omega
  have hU := hW.2.2.2.1 u hu
  have hRu : rowU (gr (srow S (r 0) w) (r 0)) u (M.2 u) := by rw [gr_same]; exact hR.2 u hu
  obtain ⟨e1, e2, e3⟩ := q_sit hk
  unfold f_X6_trialsIn
  rw [gd_i h.1, q_tried h.row (op := 0) (d := 0) ha e1 e2 rfl hu6 (by omega) (by omega) (by decide) hRu hU, q_tried h.row (op := 1) (d := 1) ha e1 e2 rfl hu6 (by omega) (by omega) (by decide) hRu hU, gb_S, gb_S, nI_add, e3, Nat.add_comm]
  rfl
theorem q_known_L (h : mSh G S m r) (hR : rowR w M) (hW : bW N M) (hu : u < mc M) : ∀ (n k : Nat) (s : Int32), k ≤ 16 → 16 - k < n → f_X6_knownSituations_L23 G m (nI u) n s (nI k) (srow S (r 0) w) = some (s + dS (fun s => if 0 < mTi (M.2 u).2 s then 1 else 0) 16 (16 - k), srow S (r 0) w) := by
  have hU := hW.2.2.2.1 u hu
  intro n
  induction n with
  | zero => intro k s _ hn; omega
  | succ n ih =>
    intro k s hk hn
    rw [f_X6_knownSituations_L23, show (16 : Int32) = nI 16 from rfl]
    by_cases c : 16 ≤ k
    · rw [if_pos (nI_le c (by omega)), dS_end _ c, Int32.add_zero]
    · have ht := mTi_le hU k
      rw [if_neg (nI_ge (by omega) (by decide)), gd_i h.1, q_tin h hR hW rfl rfl hu (by omega), gb_S, dS_at _ (show k < 16 by omega)]
      by_cases c2 : 0 < mTi (M.2 u).2 k
      · rw [if_neg (nI_nle c2 (by omega)), if_pos c2, glt_S, glt_S, nI_1, ih (k + 1) _ (by omega) (by omega), Int32.add_assoc]
      · rw [if_pos (by rw [show mTi (M.2 u).2 k = 0 by omega]; decide), if_neg c2, glt_S, glt_S, nI_1, ih (k + 1) _ (by omega) (by omega), Int32.add_assoc]
theorem q_known (h : mSh G S m r) (hR : rowR w M) (hW : bW N M) (hu : u < mc M) : f_X6_knownSituations_L23 G m (nI u) gN 0 0 (srow S (r 0) w) = some (mKn (M.2 u).2, srow S (r 0) w) := by
  have := q_known_L h hR hW hu gN 0 0 (Nat.zero_le _) (by rw [gN_e]; omega)
  rw [Int32.zero_add] at this
  exact this
theorem q_habits_L (h : mSh G S m r) (hR : rowR w M) (hW : bW N M) (hu : u < mc M) : ∀ (n k : Nat) (s : Int32), k ≤ 16 → 16 - k < n → f_X6_rightHabits_L23 G m (nI u) n s (nI k) (srow S (r 0) w) = some (s + dS (fun k => if mHab (M.2 u).2 k = mPay M.1 (k / 4) (k % 4) then 1 else 0) 16 (16 - k), srow S (r 0) w) := by
  have hu6 : u < 6 := by have := hW.1.2; omega
  have hU := hW.2.2.2.1 u hu
  have hRR : rowR (gr (srow S (r 0) w) (r 0)) M := by rw [gr_same]; exact hR
  intro n
  induction n with
  | zero => intro k s _ hn; omega
  | succ n ih =>
    intro k s hk hn
    rw [f_X6_rightHabits_L23, show (16 : Int32) = nI 16 from rfl]
    by_cases c : 16 ≤ k
    · rw [if_pos (nI_le c (by omega)), dS_end _ c, Int32.add_zero]
    · obtain ⟨e1, e2, e3⟩ := q_sit (show k < 16 by omega)
      rw [if_neg (nI_ge (by omega) (by decide)), gd_i h.1, q_right h.row rfl e1 e2 hu6 (by omega) (by omega) hRR (hRR.2 u hu) hU, gb_S, dS_at _ (show k < 16 by omega), e3]
      by_cases c2 : mHab (M.2 u).2 k = mPay M.1 (k / 4) (k % 4)
      · rw [if_neg (by rw [c2]; cases mPay M.1 (k / 4) (k % 4) <;> decide), if_pos c2, glt_S, glt_S, nI_1, ih (k + 1) _ (by omega) (by omega), Int32.add_assoc]
      · rw [if_pos (by revert c2; cases mHab (M.2 u).2 k <;> cases mPay M.1 (k / 4) (k % 4) <;> decide), if_neg c2, glt_S, glt_S, nI_1, ih (k + 1) _ (by omega) (by omega), Int32.add_assoc]
def mRH (M : mB) (u : Nat) : Int32 := dS (fun k => if mHab (M.2 u).2 k = mPay M.1 (k / 4) (k % 4) then 1 else 0) 16 16
theorem q_habits (h : mSh G S m r) (hR : rowR w M) (hW : bW N M) (hu : u < mc M) : f_X6_rightHabits_L23 G m (nI u) gN 0 0 (srow S (r 0) w) = some (mRH M u, srow S (r 0) w) := by
  have := q_habits_L h hR hW hu gN 0 0 (Nat.zero_le _) (by rw [gN_e]; omega)
  rw [Int32.zero_add] at this
  exact this
theorem q_sr_L2 (h : mSh G S m r) (hR : rowR w M) (hW : bW N M) (hu : u < mc M) (v : Int32) {kO : Int32 → gS → Option (Int32 × gS)} {a : Nat} (ha : a < 16) : ∀ (n k : Nat) (s : Int32), k ≤ 16 → 16 - k < n → f_X6_situationAt_L45 G m (nI u) v kO n (nI a) s (nI k) (srow S (r 0) w) = if s + dS (fun o => if mTi (M.2 u).2 a < mTi (M.2 u).2 o ∨ (mTi (M.2 u).2 o = mTi (M.2 u).2 a ∧ o < a) then 1 else 0) 16 (16 - k) = v then some (nI a, srow S (r 0) w) else kO (nI (a + 1)) (srow S (r 0) w) := by
  have hU := hW.2.2.2.1 u hu
  intro n
  induction n with
  | zero => intro k s _ hn; omega
  | succ n ih =>
    intro k s hk hn
    rw [f_X6_situationAt_L45, show (16 : Int32) = nI 16 from rfl]
    by_cases c : 16 ≤ k
    · rw [if_pos (nI_le c (by omega)), dS_end _ c, Int32.add_zero, glt_S, nI_1]
    · have ht := mTi_le hU k
      have ht0 := mTi_le hU a
      have t1 : (nI (mTi (M.2 u).2 k)).toInt = (mTi (M.2 u).2 k : Int) := nI_toInt (by omega)
      have t2 : (nI (mTi (M.2 u).2 a)).toInt = (mTi (M.2 u).2 a : Int) := nI_toInt (by omega)
      obtain ⟨p1, p2⟩ := sub_le (p := nI (mTi (M.2 u).2 k)) (q := nI (mTi (M.2 u).2 a)) (by omega) (by omega)
      rw [if_neg (nI_ge (by omega) (by decide)), gd_i h.1, q_tin h hR hW rfl rfl hu (by omega), gb_S, q_tin h hR hW rfl rfl hu ha, gb_S, glt_S, dS_at _ (show k < 16 by omega)]
      have hv : ∀ v : Int32, (mTi (M.2 u).2 a < mTi (M.2 u).2 k ∨ (mTi (M.2 u).2 k = mTi (M.2 u).2 a ∧ k < a) ↔ v = 1) → (v = 1 ∨ v = 0) → (if mTi (M.2 u).2 a < mTi (M.2 u).2 k ∨ (mTi (M.2 u).2 k = mTi (M.2 u).2 a ∧ k < a) then (1 : Int32) else 0) = v := by
        intro v g1 g2
        by_cases g : mTi (M.2 u).2 a < mTi (M.2 u).2 k ∨ (mTi (M.2 u).2 k = mTi (M.2 u).2 a ∧ k < a)
        · rw [if_pos g, g1.mp g]
        · rw [if_neg g]
          rcases g2 with q | q
          · exact absurd (g1.mpr q) g
          · exact q.symm
      by_cases c1 : mTi (M.2 u).2 a < mTi (M.2 u).2 k
      · have g1 : 0 < nI (mTi (M.2 u).2 k) - nI (mTi (M.2 u).2 a) := Int32.not_le.mp (fun q => nI_ge c1 (by omega) (p1.mp q))
        rw [hv 1 ⟨fun _ => rfl, fun _ => Or.inl c1⟩ (Or.inl rfl), if_pos g1, glt_S, glt_S, nI_1, ih (k + 1) _ (by omega) (by omega), Int32.add_assoc]
      · have g1 : ¬ 0 < nI (mTi (M.2 u).2 k) - nI (mTi (M.2 u).2 a) := Int32.not_lt.mpr (p1.mpr (nI_le (by omega) (by omega)))
        rw [if_neg g1]
        by_cases c2 : mTi (M.2 u).2 k = mTi (M.2 u).2 a
        · rw [if_pos (p2.mpr (congrArg nI c2))]
          by_cases c3 : a ≤ k
          · rw [hv 0 ⟨fun q => by omega, fun q => absurd q (by decide)⟩ (Or.inr rfl), if_pos (nI_le c3 (by omega)), glt_S, glt_S, nI_1, ih (k + 1) _ (by omega) (by omega), Int32.add_assoc]
          · rw [hv 1 ⟨fun _ => rfl, fun _ => Or.inr ⟨c2, by omega⟩⟩ (Or.inl rfl), if_neg (nI_ge (by omega) (by omega)), glt_S, glt_S, nI_1, ih (k + 1) _ (by omega) (by omega), Int32.add_assoc]
        · rw [hv 0 ⟨fun q => by omega, fun q => absurd q (by decide)⟩ (Or.inr rfl), if_neg (fun q => c2 ((nI_eq (by omega) (by omega)).mp (p2.mp q))), glt_S, glt_S, nI_1, ih (k + 1) _ (by omega) (by omega), Int32.add_assoc]
theorem q_sr_L (h : mSh G S m r) (hR : rowR w M) (hW : bW N M) (hu : u < mc M) (v : Int32) : ∀ (n k : Nat), k ≤ 16 → 16 - k < n → f_X6_situationAt_L21 G m (nI u) v n (nI k) (srow S (r 0) w) = match dF (fun s => decide (0 < mTi (M.2 u).2 s ∧ mSB (M.2 u).2 s = v)) 16 (16 - k) with | some i => some (nI i, srow S (r 0) w) | none => some (0, sI (srow S (r 0) w) 30 m 2) := by
  have hU := hW.2.2.2.1 u hu
  intro n
  induction n with
  | zero => intro k _ hn; omega
  | succ n ih =>
    intro k hk hn
    rw [f_X6_situationAt_L21, show (16 : Int32) = nI 16 from rfl]
    by_cases c : 16 ≤ k
    · rw [if_pos (nI_le c (by omega)), dF_end _ c]
      unfold f_X6_fails
      rw [gd_i h.1, gd_i h.1, glt_S, gb2_S]
    · have ht := mTi_le hU k
      rw [if_neg (nI_ge (by omega) (by decide)), gd_i h.1, q_tin h hR hW rfl rfl hu (by omega), gb_S, dF_at _ (show k < 16 by omega)]
      by_cases c1 : mTi (M.2 u).2 k = 0
      · rw [if_pos (by rw [c1]; rfl), if_neg (by rw [decide_eq_false (fun q => by omega)]; decide), glt_S, nI_1, ih (k + 1) (by omega) (by omega)]
      · have hz := q_sr_L2 (kO := fun y3 Sy => f_X6_situationAt_L21 G m (nI u) v n y3 Sy) h hR hW hu v (show k < 16 by omega) gN 0 0 (by omega) (by rw [gN_e]; omega)
        rw [nI_0] at hz
        rw [if_neg (fun q => c1 ((nI_0iff (by omega)).mp q)), hz, Int32.zero_add, ih (k + 1) (by omega) (by omega)]
        show (if mSB (M.2 u).2 k = v then _ else _) = _
        by_cases c2 : mSB (M.2 u).2 k = v
        · rw [if_pos c2, if_pos (decide_eq_true ⟨by omega, c2⟩)]
        · rw [if_neg c2, if_neg (by rw [decide_eq_false (fun q => c2 q.2)]; decide)]
end QY
