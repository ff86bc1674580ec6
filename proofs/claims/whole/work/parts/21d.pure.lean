/-! the reference: umbrellas, exams, terms, ranks -/
section QX
variable {G : gG} {S : gS} {m : Nat} {r : Nat → Nat} {w : Nat → Int32} {M : mB} {N u : Nat}
theorem q_cnt (hR : rowR w M) (hW : bW N M) : w 0 = nI (mc M) := (hR.1 0 (by decide)).trans hW.1.1
theorem q_read (h : mSh G S m r) {k : Int32} {n : Nat} (hk : k = nI n) (hn : n < 176) {β : Type} {c : Int32 → Option β} {Q : β → Prop} (hc : wp (c (w n)) Q) : wp (gb (gP (srow S (r 0) w) 10 m) fun b => gd (gis G 7 b) <| gd (vp_in k (gn G b)) <| c (gr (srow S (r 0) w) b (Int32.toNatClampNeg k))) Q := by
  obtain ⟨h1, h2, h3, h4⟩ := w_ok h hk hn
  refine wp_gb (show gP (srow S (r 0) w) 10 m = some (r 0) from h1) (wp_gd h2 (wp_gd h3 ?_))
  rw [h4, gr_same]
  exact hc
-- an umbrella is added
theorem q_add_L (h : mSh G S m r) (hu : u < 6) (cap : Int32) : ∀ (n k : Nat) (w : Nat → Int32), k ≤ 28 → 28 - k < n → wp (f_X6_addsUmbrella_L19 G m cap n (nI u) (nI k) (srow S (r 0) w)) (fun y => y.1 = nI u ∧ ∃ w', y.2 = srow S (r 0) w' ∧ w' (8 + 28 * u) = cap ∧ (∀ j, k ≤ j → j < 28 → 0 < j → w' (8 + 28 * u + j) = 0) ∧ ∀ i, i < 8 + 28 * u + k ∨ 8 + 28 * u + 28 ≤ i → i ≠ 8 + 28 * u → w' i = w i) := by
  intro n
  induction n with
  | zero => intro k w _ hn; omega
  | succ n ih =>
    intro k w hk hn
    rw [f_X6_addsUmbrella_L19, show (28 : Int32) = nI 28 from rfl]
    by_cases c : 28 ≤ k
    · refine wp_t (nI_le c (by omega)) (wp_gd h.1 (wp_gb (r_puts h (v := u) (k := 0) cap rfl rfl (by omega)) (wp_ret ⟨rfl, _, rfl, ?_, fun j h1 h2 _ => by omega, fun i h1 h2 => upd_ne (by omega)⟩)))
      rw [show 8 + 28 * u + 0 = 8 + 28 * u from rfl, upd_at]
    · refine wp_f (nI_ge (by omega) (by decide)) (wp_gd h.1 (wp_gb (r_puts h (v := u) (k := k) 0 rfl rfl (by omega)) (wp_glt (fun z ez => ?_))))
      rw [nI_1] at ez
      subst ez
      refine wp_mono (ih (k + 1) (upd w (8 + 28 * u + k) 0) (by omega) (by omega)) ?_
      rintro y ⟨e0, w', e1, e2, e3, e4⟩
      refine ⟨e0, w', e1, e2, fun j h1 h2 h3 => ?_, fun i h1 h2 => ?_⟩
      · by_cases q : j = k
        · subst q
          rw [e4 _ (by omega) (by omega), upd_at]
        · exact e3 j (by omega) h2 h3
      · rw [e4 i (by omega) h2, upd_ne (by omega)]
theorem q_add (h : mSh G S m r) (hR : rowR w M) (hW : bW N M) (h5 : mc M < 6) (cap : Int32) : wp (f_X6_addsUmbrella G m cap (srow S (r 0) w)) (fun y => y.1 = nI (mc M) ∧ ∃ w', y.2 = srow S (r 0) w' ∧ rowR w' (mAdd M cap)) := by
  have hc := q_cnt hR hW
  obtain ⟨h1, h2, h3, h4⟩ := w_ok h (k := 0) (n := 0) rfl (by decide)
  unfold f_X6_addsUmbrella
  refine wp_gd h.1 (wp_gb (show gP (srow S (r 0) w) 10 m = some (r 0) from h1) (wp_gd h2 (wp_gd h3 (wp_glt (fun z ez => ?_)))))
  rw [h4, gr_same, hc] at ez
  subst ez
  refine wp_gb (show gP (srow S (r 0) w) 10 m = some (r 0) from h1) (wp_gd h2 (wp_gd h3 (wp_gd h3 (wp_glt (fun S1 e1 => ?_)))))
  rw [h4, sr_row, gr_same, hc, nI_1] at e1
  subst e1
  refine wp_mono (q_add_L h h5 cap gN 0 _ (by omega) (by rw [gN_e]; omega)) ?_
  rintro y ⟨e0, w', e1, e2, e3, e4⟩
  refine ⟨e0, w', e1, ⟨fun k hk => ?_, fun i hi => ?_⟩⟩
  · rw [e4 k (by omega) (by omega)]
    show _ = upd M.1 0 (M.1 0 + 1) k
    by_cases q : k = 0
    · subst q; rw [upd_at, upd_at, hW.1.1, nI_1]
    · rw [upd_ne q, upd_ne q]; exact hR.1 k hk
  · have hm : mc (mAdd M cap) = mc M + 1 := by
      show (upd M.1 0 (M.1 0 + 1) 0).toNatClampNeg = _
      rw [upd_at, hW.1.1, nI_1, nI_clamp (by omega)]
    rw [hm] at hi
    show rowU w' i (if i = mc M then (upd (fun _ => 0) 0 cap, []) else M.2 i)
    by_cases q : i = mc M
    · subst q
      rw [if_pos rfl]
      refine ⟨fun k hk => ?_, fun k t hk => by cases hk⟩
      show _ = upd (fun _ => 0) 0 cap k
      by_cases q2 : k = 0
      · subst q2; rw [upd_at]; exact e2
      · rw [upd_ne q2]; exact e3 k (Nat.zero_le _) (by omega) (by omega)
    · rw [if_neg q]
      refine (hR.2 i (by omega)).cong (hW.2.2.2.1 i (by omega)).cap (fun j g1 g2 => ?_)
      rw [e4 j (by omega) (by omega), upd_ne (by omega)]
-- numbers and periods set
theorem q_period (h : mSh G S m r) (hR : rowR w M) (hW : bW N M) (hu : u < mc M) (p : Int32) {a : Int32} (ha : a = nI u) : wp (f_X6_setsPeriod G m a p (srow S (r 0) w)) (fun y => y.1 = (M.2 u).1 1 ∧ ∃ w', y.2 = srow S (r 0) w' ∧ rowR w' (mSet M u (upd (M.2 u).1 1 p, (M.2 u).2))) := by
  subst ha
  have hu6 : u < 6 := by have := hW.1.2; omega
  have hl := (hW.2.2.2.1 u hu).cap
  unfold f_X6_setsPeriod
  refine wp_gd h.1 (wp_gb (r_of h (v := u) (k := 1) rfl rfl (by omega)) (wp_gb (r_puts h (v := u) (k := 1) p rfl rfl (by omega)) (wp_ret ⟨(hR.2 u hu).1 1 (by decide), _, rfl, ?_⟩)))
  refine hR.set hW hu ⟨fun k hk => ?_, fun k t hk => ?_⟩ (fun i hi => upd_ne (by omega))
  · show _ = upd (M.2 u).1 1 p k
    by_cases q : k = 1
    · subst q; rw [upd_at, upd_at]
    · rw [upd_ne q, upd_ne (by omega)]; exact (hR.2 u hu).1 k hk
  · have := (List.getElem?_eq_some_iff.mp hk).1
    rw [upd_ne (by omega)]
    exact (hR.2 u hu).2 k t hk
theorem q_sets (h : mSh G S m r) (hR : rowR w M) (hW : bW N M) {k : Nat} (h0 : 0 < k) (h8 : k < 8) (p : Int32) {a : Int32} (ha : a = nI k) : wp (f_X6_sets G m a p (srow S (r 0) w)) (fun y => y.1 = M.1 k ∧ ∃ w', y.2 = srow S (r 0) w' ∧ rowR w' (upd M.1 k p, M.2)) := by
  obtain ⟨h1, h2, h3, h4⟩ := w_ok h ha (show k < 176 by omega)
  unfold f_X6_sets
  refine wp_gd h.1 (wp_gb (show gP (srow S (r 0) w) 10 m = some (r 0) from h1) (wp_gd h2 (wp_gd h3 (wp_glt (fun z ez => ?_)))))
  refine wp_gb (show gP (srow S (r 0) w) 10 m = some (r 0) from h1) (wp_gd h2 (wp_gd h3 (wp_glt (fun S1 e1 => wp_ret ?_))))
  rw [h4, gr_same] at ez
  rw [h4, sr_row] at e1
  refine ⟨ez.trans (hR.1 k h8), _, e1, ?_⟩
  refine hR.nums (fun i hi => (hW.2.2.2.1 i hi).cap) (upd_ne (by omega)) (fun j hj => ?_) (fun i hi => upd_ne (by omega))
  by_cases q : j = k
  · subst q; rw [upd_at, upd_at]
  · rw [upd_ne q, upd_ne q]; exact hR.1 j hj
-- trials forgotten
theorem q_zero_L (h : mSh G S m r) (hu : u < 6) {rn kept : Int32} {kO : Int32 → Int32 → Int32 → gS → Option (Int32 × gS)} {all : Nat} (ha : all ≤ 20) : ∀ (n k : Nat) (w : Nat → Int32), k ≤ all → all - k < n → wp (f_X6_forgets_L67 G m (nI u) rn kO n kept (nI all) (nI k) (srow S (r 0) w)) (fun y => y.1 = nI all - kept ∧ ∃ w', y.2 = srow S (r 0) w' ∧ w' (8 + 28 * u + 3) = kept ∧ ∀ i, i ≠ 8 + 28 * u + 3 → i < 16 + 28 * u + k ∨ 16 + 28 * u + all ≤ i → w' i = w i) := by
  intro n
  induction n with
  | zero => intro k w _ hn; omega
  | succ n ih =>
    intro k w hk hn
    rw [f_X6_forgets_L67]
    by_cases c : all ≤ k
    · exact wp_t (nI_le c (by omega)) (wp_gd h.1 (wp_gb (r_puts h (v := u) (k := 3) kept rfl rfl (by omega)) (wp_ret ⟨rfl, _, rfl, upd_at _ _ _, fun i h1 h2 => upd_ne h1⟩)))
    · refine wp_f (nI_ge (by omega) (by omega)) (wp_gd h.1 (wp_gb (r_puts h (v := u) (k := 8 + k) 0 rfl (nI_add 8 k) (by omega)) (wp_glt (fun z ez => ?_))))
      rw [nI_1] at ez
      subst ez
      refine wp_mono (ih (k + 1) (upd w (8 + 28 * u + (8 + k)) 0) (by omega) (by omega)) ?_
      rintro y ⟨e0, w', e1, e2, e3⟩
      exact ⟨e0, w', e1, e2, fun i h1 h2 => by rw [e3 i h1 (by omega), upd_ne (by omega)]⟩
theorem q_forget_L (h : mSh G S m r) (hu : u < 6) {rn : Nat} (hr : rn < 4) : ∀ (n : Nat) (P Q : List (Nat × Nat)) (k : Nat) (w : Nat → Int32), P.length ≤ k → k + Q.length ≤ 20 → Q.length < n → (∀ t ∈ Q, t.1 < 32 ∧ t.2 < 128) →
    (∀ j t, P[j]? = some t → w (16 + 28 * u + j) = tcd t) → (∀ j t, Q[j]? = some t → w (16 + 28 * u + (k + j)) = tcd t) →
    wp (f_X6_forgets_L13 G m (nI u) (nI rn) n (nI P.length) (nI (k + Q.length)) (nI k) (srow S (r 0) w)) (fun y => y.1 = nI (k + Q.length - (P ++ mKeep Q rn).length) ∧ ∃ w', y.2 = srow S (r 0) w' ∧ w' (8 + 28 * u + 3) = nI (P ++ mKeep Q rn).length ∧ (∀ j t, (P ++ mKeep Q rn)[j]? = some t → w' (16 + 28 * u + j) = tcd t) ∧ ∀ i, i ≠ 8 + 28 * u + 3 → i < 16 + 28 * u ∨ 8 + 28 * u + 28 ≤ i → w' i = w i) := by
  intro n
  induction n with
  | zero => intro P Q k w _ _ hn; omega
  | succ n ih =>
    intro P Q k w hPk hk hn hQ hP hQr
    rw [f_X6_forgets_L13]
    cases Q with
    | nil =>
      have hk : k ≤ 20 := hk
      refine wp_t (nI_le (by simp) (by simp; omega)) ?_
      refine wp_mono (q_zero_L h hu (all := k + ([] : List (Nat × Nat)).length) hk gN P.length w (by simp; omega) (by rw [gN_e]; simp; omega)) ?_
      rintro y ⟨e0, w', e1, e2, e3⟩
      rw [mKeep_nil, List.append_nil]
      refine ⟨by rw [e0, nI_sub (by simp; omega)], w', e1, e2, fun j t hj => ?_, fun i h1 h2 => e3 i h1 (by simp; omega)⟩
      have := (List.getElem?_eq_some_iff.mp hj).1
      rw [e3 _ (by omega) (by omega)]
      exact hP j t hj
    | cons t Q =>
      have hkl : k + Q.length + 1 ≤ 20 := by rw [List.length_cons] at hk; omega
      have hl : k + (t :: Q).length = k + 1 + Q.length := by rw [List.length_cons]; omega
      have ht := hQ t List.mem_cons_self
      have h0 := hQr 0 t rfl
      rw [Nat.add_zero] at h0
      refine wp_f (nI_ge (by rw [List.length_cons]; omega) (by rw [List.length_cons]; omega)) (wp_gd h.1 (wp_gb (r_of h (v := u) (k := 8 + k) rfl (nI_add 8 k) (by omega)) ?_))
      rw [show 8 + 28 * u + (8 + k) = 16 + 28 * u + k by omega, h0]
      refine wp_gb (show f_X6_rainOf (tcd t) = some (nI (t.1 / 8)) by unfold f_X6_rainOf; rw [tcd_m4 ht]) ?_
      rw [mKeep_cons, hl]
      by_cases c : t.1 / 8 = rn
      · rw [if_pos c]
        refine wp_t (congrArg nI c) (wp_glt (fun z ez => ?_))
        rw [nI_1] at ez
        subst ez
        exact ih P Q (k + 1) w (by omega) (by omega) (by rw [List.length_cons] at hn; omega) (fun t' h' => hQ t' (List.mem_cons_of_mem _ h')) hP (fun j t' hj => by
          rw [show k + 1 + j = k + (j + 1) by omega]; exact hQr (j + 1) t' hj)
      · rw [if_neg c]
        refine wp_f (fun q => c ((nI_eq (by omega) (by omega)).mp q)) (wp_gb (r_puts h (v := u) (k := 8 + P.length) _ rfl (nI_add 8 _) (by omega)) (wp_glt (fun z ez => wp_glt (fun z2 ez2 => ?_))))
        rw [nI_1] at ez ez2
        subst ez ez2
        have hPt : P.length + 1 = (P ++ [t]).length := by simp
        rw [hPt, show P ++ t :: mKeep Q rn = (P ++ [t]) ++ mKeep Q rn by simp]
        refine wp_mono (ih (P ++ [t]) Q (k + 1) (upd w (8 + 28 * u + (8 + P.length)) (tcd t)) (by rw [← hPt]; omega) (by omega) (by rw [List.length_cons] at hn; omega) (fun t' h' => hQ t' (List.mem_cons_of_mem _ h')) (fun j t' hj => ?_) (fun j t' hj => ?_)) ?_
        · rcases mU_get hj with ⟨g1, g2⟩ | ⟨i, g1, g2⟩
          · rw [upd_ne (by omega)]
            exact hP j t' g1
          · cases i with
            | zero =>
              cases g2
              have g1 : j = P.length := g1
              rw [g1, show 16 + 28 * u + P.length = 8 + 28 * u + (8 + P.length) by omega, upd_at]
            | succ i => cases g2
        · rw [upd_ne (by omega), show k + 1 + j = k + (j + 1) by omega]
          exact hQr (j + 1) t' hj
        · rintro y ⟨e0, w', e1, e2, e3, e4⟩
          exact ⟨e0, w', e1, e2, e3, fun i h1 h2 => by rw [e4 i h1 h2, upd_ne (by omega)]⟩
theorem q_forget (h : mSh G S m r) (hR : rowR w M) (hW : bW N M) {rn : Nat} {a b : Int32} (ha : a = nI u) (hb : b = nI rn) (hu : u < mc M) (hr : rn < 4) : wp (f_X6_forgets G m a b (srow S (r 0) w)) (fun y => y.1 = nI ((M.2 u).2.length - (mKeep (M.2 u).2 rn).length) ∧ ∃ w', y.2 = srow S (r 0) w' ∧ rowR w' (mSet M u (mForget (M.2 u) rn))) := by
  subst ha hb
  have hu6 : u < 6 := by have := hW.1.2; omega
  have hU := hW.2.2.2.1 u hu
  have hRu := hR.2 u hu
  have h20 := hU.cap
  have hl : w (8 + 28 * u + 3) = nI (M.2 u).2.length := (hRu.1 3 (by decide)).trans hU.2.2.1
  unfold f_X6_forgets
  refine wp_gd h.1 (wp_gb (r_of h (v := u) (k := 3) rfl rfl (by omega)) ?_)
  rw [hl]
  have := q_forget_L h hu6 hr gN [] (M.2 u).2 0 w (Nat.zero_le _) (by omega) (by rw [gN_e]; omega) hU.2.2.2.1 (fun j t hj => by cases hj) (fun j t hj => by rw [Nat.zero_add]; exact hRu.2 j t hj)
  rw [Nat.zero_add, List.nil_append] at this
  refine wp_mono this ?_
  rintro y ⟨e0, w', e1, e2, e3, e4⟩
  have hk := mKeep_le (M.2 u).2 rn
  refine ⟨e0, w', e1, hR.set hW hu ⟨fun k hk => ?_, e3⟩ (fun i hi => e4 i (by omega) (by omega))⟩
  show _ = upd (M.2 u).1 3 (nI (mKeep (M.2 u).2 rn).length) k
  by_cases q : k = 3
  · subst q; rw [upd_at]; exact e2
  · rw [upd_ne q, e4 _ (by omega) (by omega)]; exact hRu.1 k hk
-- exams
theorem ex_facts : ∀ e, e < 16 → ∀ wd, wd < 4 → ((((nI e >>> (nI wd &&& 31)) &&& 1) = 1 ↔ mHas (nI e) wd = true) ∧ (mHas (nI e) wd = true → mExS (nI e) wd true = nI e ∧ mExS (nI e) wd false = nI e + (-(1 <<< (nI wd &&& 31)))) ∧ (mHas (nI e) wd = false → mExS (nI e) wd false = nI e ∧ mExS (nI e) wd true = nI e + (1 <<< (nI wd &&& 31)))) := by decide +kernel
theorem ex_in : ∀ e, e < 16 → ∀ wd, wd < 4 → ∀ b : Bool, (mExS (nI e) wd b).toNatClampNeg < 16 ∧ mExS (nI e) wd b = nI (mExS (nI e) wd b).toNatClampNeg := by decide +kernel
theorem q_has (h : mSh G S m r) {U : mU} (hR : rowU w u U) (hU : uW N U) {wd : Nat} {a b : Int32} (ha : a = nI u) (hb : b = nI wd) (hu : u < 6) (hw : wd < 4) : f_X6_hasExamOf G m a b (srow S (r 0) w) = some (mHas (U.1 7) wd) := by
  subst hb
  obtain ⟨e, he, e7⟩ := hU.2.2.2.2.1
  obtain ⟨f1, -, -⟩ := ex_facts e he wd hw
  unfold f_X6_hasExamOf
  rw [gd_i h.1, r_of h (v := u) (k := 7) (b := 7) ha rfl (by omega), gb_S, hR.1 7 (by decide), e7]
  by_cases c : mHas (nI e) wd = true
  · rw [if_pos (f1.mpr c), c]
  · rw [if_neg (fun q => c (f1.mp q))]
    have : mHas (nI e) wd = false := by simpa using c
    rw [this]
theorem rowR.exam (hR : rowR w M) (hW : bW N M) (hu : u < mc M) {v : Int32} : rowR (upd w (8 + 28 * u + 7) v) (mSet M u (upd (M.2 u).1 7 v, (M.2 u).2)) := by
  have hl := (hW.2.2.2.1 u hu).cap
  refine hR.set hW hu ⟨fun k hk => ?_, fun k t hk => ?_⟩ (fun i hi => upd_ne (by omega))
  · show _ = upd (M.2 u).1 7 v k
    by_cases q : k = 7
    · subst q; rw [upd_at, upd_at]
    · rw [upd_ne q, upd_ne (by omega)]; exact (hR.2 u hu).1 k hk
  · have := (List.getElem?_eq_some_iff.mp hk).1
    rw [upd_ne (by omega)]
    exact (hR.2 u hu).2 k t hk
theorem upd_id (f : Nat → Int32) (k : Nat) : upd f k (f k) = f := by
  funext j
  by_cases c : j = k
  · subst c; rw [upd_at]
  · rw [upd_ne c]
theorem q_exam_L (h : mSh G S m r) (hR : rowR w M) (hW : bW N M) {wd : Nat} (hu : u < mc M) (hw : wd < 4) : ∀ (n k : Nat) (s : Int32), k ≤ 4 → 4 - k < n → s + dS (fun rn => if mHab (M.2 u).2 (4 * rn + wd) = mPay M.1 rn wd then 1 else 0) 4 (4 - k) = mRA M u wd → wp (f_X6_examines_L5 G m (nI u) (nI wd) n s (nI k) (srow S (r 0) w)) (fun y => y.1 = mRA M u wd ∧ ∃ w', y.2 = srow S (r 0) w' ∧ rowR w' (mExam M u wd)) := by
  have hu6 : u < 6 := by have := hW.1.2; omega
  have hU := hW.2.2.2.1 u hu
  have hRu := hR.2 u hu
  obtain ⟨e, he, e7⟩ := hU.2.2.2.2.1
  have w7 : w (8 + 28 * u + 7) = nI e := (hRu.1 7 (by decide)).trans e7
  obtain ⟨-, f2, f3⟩ := ex_facts e he wd hw
  intro n
  induction n with
  | zero => intro k s _ hn; omega
  | succ n ih =>
    intro k s hk hn hs
    rw [f_X6_examines_L5, show (4 : Int32) = nI 4 from rfl]
    by_cases c : 4 ≤ k
    · rw [dS_end _ c, Int32.add_zero] at hs
      subst hs
      have fin : ∀ (b : Bool) (v : Int32), b = decide (3 ≤ mRA M u wd) → v = mExS (nI e) wd b → rowR (upd w (8 + 28 * u + 7) v) (mExam M u wd) := by
        intro b v hb hv
        unfold mExam
        rw [← hb, e7, ← hv]
        exact hR.exam hW hu
      refine wp_t (nI_le c (by omega)) ?_
      have hh := q_has h hRu hU (a := nI u) (b := nI wd) rfl rfl hu6 hw
      rw [e7] at hh
      by_cases c3 : mRA M u wd < 3
      · have hb : false = decide (3 ≤ mRA M u wd) := (decide_eq_false (Int32.not_le.mpr c3)).symm
        refine wp_t c3 (wp_gd h.1 (wp_gb hh ?_))
        cases hx : mHas (nI e) wd with
        | false =>
          refine wp_t (show (0 : Int32) = gz false from rfl) (wp_ret ⟨rfl, w, rfl, ?_⟩)
          have := fin false (nI e) hb (f3 hx).1.symm
          rw [← w7, upd_id] at this
          exact this
        | true =>
          refine wp_f (by decide) (wp_t c3 (wp_gb (r_adds h (v := u) (k := 7) _ rfl rfl (by omega)) (wp_ret ⟨rfl, _, rfl, ?_⟩)))
          exact fin false _ hb (by rw [w7]; exact (f2 hx).2.symm)
      · have hb : true = decide (3 ≤ mRA M u wd) := (decide_eq_true (Int32.not_lt.mp c3)).symm
        refine wp_f c3 (wp_gd h.1 (wp_gb hh ?_))
        cases hx : mHas (nI e) wd with
        | true =>
          refine wp_t (show (1 : Int32) = gz true from rfl) (wp_ret ⟨rfl, w, rfl, ?_⟩)
          have := fin true (nI e) hb (f2 hx).1.symm
          rw [← w7, upd_id] at this
          exact this
        | false =>
          refine wp_f (by decide) (wp_f c3 (wp_gb (r_adds h (v := u) (k := 7) _ rfl rfl (by omega)) (wp_ret ⟨rfl, _, rfl, ?_⟩)))
          exact fin true _ hb (by rw [w7]; exact (f3 hx).2.symm)
    · rw [dS_at _ (show k < 4 by omega)] at hs
      refine wp_f (nI_ge (by omega) (by decide)) (wp_gd h.1 (wp_gb (q_right h.row rfl rfl rfl hu6 (by omega) hw (by rw [gr_same]; exact hR) (by rw [gr_same]; exact hRu) hU) ?_))
      by_cases c2 : mHab (M.2 u).2 (4 * k + wd) = mPay M.1 k wd
      · rw [if_pos c2, ← Int32.add_assoc] at hs
        refine wp_f (by rw [c2]; cases mPay M.1 k wd <;> decide) (wp_glt (fun z ez => wp_glt (fun z2 ez2 => ?_)))
        rw [nI_1] at ez2
        subst ez ez2
        exact ih (k + 1) _ (by omega) (by omega) hs
      · rw [if_neg c2, ← Int32.add_assoc] at hs
        refine wp_t (by revert c2; cases mHab (M.2 u).2 (4 * k + wd) <;> cases mPay M.1 k wd <;> decide) (wp_glt (fun z ez => wp_glt (fun z2 ez2 => ?_)))
        rw [nI_1] at ez2
        subst ez ez2
        exact ih (k + 1) _ (by omega) (by omega) hs
theorem q_exam (h : mSh G S m r) (hR : rowR w M) (hW : bW N M) {wd : Nat} {a b : Int32} (ha : a = nI u) (hb : b = nI wd) (hu : u < mc M) (hw : wd < 4) : wp (f_X6_examines G m a b (srow S (r 0) w)) (fun y => y.1 = mRA M u wd ∧ ∃ w', y.2 = srow S (r 0) w' ∧ rowR w' (mExam M u wd)) := by
  subst ha hb
  exact q_exam_L h hR hW hu hw gN 0 0 (by omega) (by rw [gN_e]; omega) (by rw [Int32.zero_add]; rfl)
end QX
