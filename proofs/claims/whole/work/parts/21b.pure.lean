/-! the class: terms, ranks, sums, situations -/
section CD
variable {G : gG} {S : gS} {x : gBA} {M : mB} {N : Nat}
theorem bR.cnt (hR : bR S x M) (hW : bW N M) : gI S 0 x.1 = nI (mc M) := hR.1.1.trans hW.1.1
theorem c_at (h : bOk G S x) (hR : bR S x M) (hW : bW N M) {i : Nat} {a : Int32} (ha : a = nI i) (hi : i < mc M) : f_X1_umbrellaAt G x.1 a S = some (.inr (x.2.2 i).1) := c_uat h (hR.cnt hW) hW.1.2 ha hi
theorem bR.I0 {S' : gS} {k : Nat} {v : Int32} {n : Nat → Int32} (hR : bR S x M) (hO : bOk G S x) (e : S' = sI S k x.1 v) (hn : gI S' 0 x.1 = n 0 ∧ gI S' 1 x.1 = n 1 ∧ gI S' 2 x.1 = n 2 ∧ gI S' 3 x.1 = n 3 ∧ gI S' 4 x.1 = n 6 ∧ gI S' 5 x.1 = n 4 ∧ gI S' 6 x.1 = n 5) : bR S' x (n, M.2) ∧ gFr (bFp x) S S' := by
  have f1 := (gFr.rfl' (S := S)).I' e (List.mem_cons_self (a := x.1) (l := []))
  exact ⟨⟨hn, fun i hi => (hR.2 i hi).fr f1 (fun a ha q => hO.parts.1 i hi (by rw [List.mem_singleton.mp q] at ha; exact ha))⟩, f1.mono (fun a ha => by rw [List.mem_singleton.mp ha]; exact bFp_0 x)⟩
-- a term ends
theorem c_zero_L {kO : Int32 → Int32 → gS → Option (Int32 × gS)} (v : Int32) : ∀ (n k : Nat) (M : mB) (S : gS), bOk G S x → bR S x M → M.1 0 = nI (mc M) → mc M ≤ 6 → k ≤ mc M → mc M - k < n → wp (f_X1_closeTerm_L55 G x.1 kO n v (nI k) S) (fun y => y.1 = v ∧ bR y.2 x (mZero M k) ∧ gFr (bFp x) S y.2) := by
  intro n
  induction n with
  | zero => intro k M S _ _ _ _ _ hn; omega
  | succ n ih =>
    intro k M S h hR h0 h6 hk hn
    have hc : gI S 0 x.1 = nI (mc M) := hR.1.1.trans h0
    rw [f_X1_closeTerm_L55]
    refine wp_gd h.1.1 ?_
    rw [hc]
    by_cases c : mc M ≤ k
    · refine wp_t (nI_le c (by omega)) (wp_glt (fun S1 e => wp_ret ?_))
      have e' := e
      rw [hR.1.2.2.2.1] at e
      have hR' := hR
      obtain ⟨⟨b0, b1, b2, b3, b4, b5, b6⟩, -⟩ := hR'
      have := bR.I0 (n := upd M.1 3 (M.1 3 + 1)) hR h e (by
        subst e
        exact ⟨b0, b1, b2, by rw [gI_sI, if_pos ⟨rfl, rfl⟩]; exact (upd_at _ _ _).symm, b4, b5, b6⟩)
      refine ⟨rfl, ?_, this.2⟩
      have g : mZero M k = (upd M.1 3 (M.1 3 + 1), M.2) := by
        unfold mZero
        congr 1
        funext j
        rw [if_neg (by omega)]
      rw [g]
      exact this.1
    · refine wp_f (nI_ge (by omega) (by omega)) (wp_gbx1 (c_uat h hc h6 rfl (by omega)) (wp_gd (h.u (i := k) (by omega)).1.1 (wp_glt (fun S1 e => wp_glt (fun z ez => ?_)))))
      rw [nI_1] at ez
      subst ez
      have f1 := (gFr.rfl' (S := S)).I' e (uFp_0 (x.2.2 k))
      have r1 := bR.set hR h (show k < 6 by omega) ((hR.2 k (by omega)).I 5 e) f1
      have fb : gFr (bFp x) S S1 := f1.mono (fun a ha => uFp_b (show k < 6 by omega) ha)
      have g : mZero M k = mZero (mSet M k (upd (M.2 k).1 5 0, (M.2 k).2)) (k + 1) := by
        unfold mZero
        show (_, _) = (_, _)
        congr 1
        funext j
        show (if k ≤ j ∧ j < mc M then _ else _) = if k + 1 ≤ j ∧ j < mc M then (upd (if j = k then (upd (M.2 k).1 5 0, (M.2 k).2) else M.2 j : mU).1 5 0, (if j = k then (upd (M.2 k).1 5 0, (M.2 k).2) else M.2 j : mU).2) else (if j = k then (upd (M.2 k).1 5 0, (M.2 k).2) else M.2 j : mU)
        by_cases q : j = k
        · subst q
          rw [if_pos (show j ≤ j ∧ j < mc M by omega), if_neg (show ¬ (j + 1 ≤ j ∧ j < mc M) by omega), if_pos rfl]
        · rw [if_neg q]
          by_cases q2 : k ≤ j ∧ j < mc M
          · rw [if_pos q2, if_pos (show k + 1 ≤ j ∧ j < mc M by omega)]
          · rw [if_neg q2, if_neg (show ¬ (k + 1 ≤ j ∧ j < mc M) by omega)]
      rw [g]
      exact wp_mono (ih (k + 1) (mSet M k (upd (M.2 k).1 5 0, (M.2 k).2)) S1 (h.fr fb) r1 h0 h6 (show k + 1 ≤ mc M by omega) (show mc M - (k + 1) < n by omega)) (fun y hy => ⟨hy.1, hy.2.1, fb.trans hy.2.2⟩)
theorem mBest_lt (u : Nat → mU) : ∀ n, 0 < n → mBest u n < n := by
  intro n
  induction n with
  | zero => intro h; omega
  | succ n ih =>
    intro _
    show (if (u (mBest u n)).1 5 < (u n).1 5 then n else mBest u n) < n + 1
    split
    · omega
    · cases n with
      | zero => show (0 : Nat) < 0 + 1; omega
      | succ n => have := ih (by omega); omega
theorem c_best_L (h : bOk G S x) (hR : bR S x M) (hW : bW N M) (h1 : 0 < mc M) : ∀ (n k : Nat), 1 ≤ k → k ≤ mc M → mc M - k < n → wp (f_X1_closeTerm_L4 G x.1 n (nI (mBest M.2 k)) (nI k) S) (fun y => y.1 = nI (mBest M.2 (mc M)) ∧ bR y.2 x (mTerm M) ∧ gFr (bFp x) S y.2) := by
  have h6 := hW.1.2
  intro n
  induction n with
  | zero => intro k _ _ hn; omega
  | succ n ih =>
    intro k hk1 hk hn
    have hb := mBest_lt M.2 k (by omega)
    rw [f_X1_closeTerm_L4]
    refine wp_gd h.1.1 ?_
    rw [hR.cnt hW]
    by_cases c : mc M ≤ k
    · have ek : k = mc M := by omega
      subst ek
      refine wp_t (nI_le c (by omega)) (wp_gbx1 (c_at h hR hW rfl hb) (wp_gd (h.u (i := mBest M.2 (mc M)) (by omega)).1.1 (wp_glt (fun S1 e => ?_))))
      have e6 : gI S 16 (x.2.2 (mBest M.2 (mc M))).1 = (M.2 (mBest M.2 (mc M))).1 6 := (hR.2 _ (by omega)).1 6 (by decide)
      rw [e6] at e
      have f1 := (gFr.rfl' (S := S)).I' e (uFp_0 (x.2.2 (mBest M.2 (mc M))))
      have r1 := bR.set hR h (show mBest M.2 (mc M) < 6 by omega) ((hR.2 _ (by omega)).I 6 e) f1
      have fb : gFr (bFp x) S S1 := f1.mono (fun a ha => uFp_b (show mBest M.2 (mc M) < 6 by omega) ha)
      exact wp_mono (c_zero_L (nI (mBest M.2 (mc M))) gN 0 (mStar M) S1 (h.fr fb) r1 hW.1.1 h6 (Nat.zero_le _) (by rw [gN_e]; show mc M - 0 < _; omega)) (fun y hy => ⟨hy.1, hy.2.1, fb.trans hy.2.2⟩)
    · refine wp_f (nI_ge (by omega) (by omega)) (wp_gbx1 (c_at h hR hW rfl (by omega)) (wp_gd (h.u (i := k) (by omega)).1.1 (wp_gbx1 (c_at h hR hW rfl (by omega)) (wp_gd (h.u (i := mBest M.2 k) (by omega)).1.1 ?_))))
      have e1 : gI S 15 (x.2.2 k).1 = (M.2 k).1 5 := (hR.2 k (by omega)).1 5 (by decide)
      have e2 : gI S 15 (x.2.2 (mBest M.2 k)).1 = (M.2 (mBest M.2 k)).1 5 := (hR.2 _ (by omega)).1 5 (by decide)
      rw [e1, e2]
      have next := ih (k + 1) (by omega) (by omega) (by omega)
      have eb : mBest M.2 (k + 1) = if (M.2 (mBest M.2 k)).1 5 < (M.2 k).1 5 then k else mBest M.2 k := rfl
      by_cases c2 : (M.2 k).1 5 ≤ (M.2 (mBest M.2 k)).1 5
      · refine wp_t c2 (wp_glt (fun z ez => ?_))
        rw [nI_1] at ez
        subst ez
        rw [eb, if_neg (Int32.not_lt.mpr c2)] at next
        exact next
      · refine wp_f c2 (wp_glt (fun z ez => ?_))
        rw [nI_1] at ez
        subst ez
        rw [eb, if_pos (Int32.not_le.mp c2)] at next
        exact next
theorem c_term (h : bOk G S x) (hR : bR S x M) (hW : bW N M) (h1 : 0 < mc M) : wp (f_X1_closeTerm G x.1 S) (fun y => y.1 = nI (mBest M.2 (mc M)) ∧ bR y.2 x (mTerm M) ∧ gFr (bFp x) S y.2) := by
  have h6 := hW.1.2
  have e : mBest M.2 1 = 0 := by
    show (if (M.2 0).1 5 < (M.2 0).1 5 then 0 else 0) = 0
    split <;> rfl
  have := c_best_L h hR hW h1 gN 1 (by omega) (by omega) (by rw [gN_e]; omega)
  rw [e] at this
  exact this
-- changes of one number or umbrella
theorem c_enrol (h : bOk G S x) (hR : bR S x M) (hW : bW N M) (h5 : mc M < 6) (cap : Int32) : wp (f_X1_enrol G x.1 cap S) (fun y => y.1 = nI (mc M) ∧ bR y.2 x (mAdd M cap) ∧ gFr (bFp x) S y.2) := by
  unfold f_X1_enrol
  refine wp_gd h.1.1 (wp_glt (fun z ez => wp_glt (fun S1 e => ?_)))
  rw [hR.cnt hW] at ez e
  rw [nI_1] at e
  have ea : M.1 0 + 1 = nI (mc M + 1) := by rw [hW.1.1, nI_1]
  have r1 := bR.I0 (n := upd M.1 0 (M.1 0 + 1)) hR h e (by
    obtain ⟨⟨b0, b1, b2, b3, b4, b5, b6⟩, -⟩ := hR
    subst e
    exact ⟨by rw [gI_sI, if_pos ⟨rfl, rfl⟩, upd_at, ea], b1, b2, b3, b4, b5, b6⟩)
  have o1 := h.fr r1.2
  have c1 : gI S1 0 x.1 = nI (mc M + 1) := by rw [e, gI_sI, if_pos ⟨rfl, rfl⟩]
  refine wp_gbx1 (c_uat o1 c1 (by omega) ez (by omega)) (wp_gd (o1.u h5).1.1 (wp_glt (fun S2 e2 => wp_ret ?_)))
  have f2 := (gFr.rfl' (S := S1)).I' e2 (uFp_0 (x.2.2 (mc M)))
  have u0 := r1.1.2 (mc M) h5
  have hz : M.2 (mc M) = mU0 := hW.2.2.2.2.1 (mc M) (Nat.le_refl _)
  have r2 := bR.set r1.1 o1 h5 (u0.I 0 e2) f2
  refine ⟨ez, ?_, r1.2.trans (f2.mono (fun a ha => uFp_b h5 ha))⟩
  have g : mAdd M cap = mSet (upd M.1 0 (M.1 0 + 1), M.2) (mc M) (upd (M.2 (mc M)).1 0 cap, (M.2 (mc M)).2) := by
    unfold mAdd mSet
    rw [hz]
    rfl
  rw [g]
  exact r2
theorem c_wet (h : bOk G S x) (hR : bR S x M) (p : Int32) : wp (f_X1_changeWet G x.1 p S) (fun y => y.1 = M.1 1 ∧ bR y.2 x (upd M.1 1 p, M.2) ∧ gFr (bFp x) S y.2) := by
  unfold f_X1_changeWet
  refine wp_gd h.1.1 (wp_glt (fun z ez => wp_glt (fun S1 e => wp_ret ?_)))
  have hR' := hR
  obtain ⟨⟨b0, b1, b2, b3, b4, b5, b6⟩, -⟩ := hR'
  exact ⟨ez.trans b1, bR.I0 hR h e (by
    subst e
    exact ⟨b0, by rw [gI_sI, if_pos ⟨rfl, rfl⟩]; exact (upd_at _ _ _).symm, b2, b3, b4, b5, b6⟩)⟩
theorem c_gale (h : bOk G S x) (hR : bR S x M) (p : Int32) : wp (f_X1_changeGale G x.1 p S) (fun y => y.1 = M.1 2 ∧ bR y.2 x (upd M.1 2 p, M.2) ∧ gFr (bFp x) S y.2) := by
  unfold f_X1_changeGale
  refine wp_gd h.1.1 (wp_glt (fun z ez => wp_glt (fun S1 e => wp_ret ?_)))
  have hR' := hR
  obtain ⟨⟨b0, b1, b2, b3, b4, b5, b6⟩, -⟩ := hR'
  exact ⟨ez.trans b2, bR.I0 hR h e (by
    subst e
    exact ⟨b0, b1, by rw [gI_sI, if_pos ⟨rfl, rfl⟩]; exact (upd_at _ _ _).symm, b3, b4, b5, b6⟩)⟩
theorem c_period (h : bOk G S x) (hR : bR S x M) {u : Nat} (hu : u < 6) (p : Int32) : wp (f_X4_changePeriod G (x.2.2 u).1 p S) (fun y => y.1 = (M.2 u).1 1 ∧ bR y.2 x (mSet M u (upd (M.2 u).1 1 p, (M.2 u).2)) ∧ gFr (bFp x) S y.2) := by
  unfold f_X4_changePeriod
  refine wp_gd (h.u hu).1.1 (wp_glt (fun z ez => wp_glt (fun S1 e => wp_ret ?_)))
  have f1 := (gFr.rfl' (S := S)).I' e (uFp_0 (x.2.2 u))
  exact ⟨ez.trans ((hR.2 u hu).1 1 (by decide)), bR.set hR h hu ((hR.2 u hu).I 1 e) f1, f1.mono (fun a ha => uFp_b hu ha)⟩
theorem c_forgetB (h : bOk G S x) (hR : bR S x M) (hW : bW N M) {u rn : Nat} {a : Int32} (ha : a = nI rn) (hu : u < mc M) (hr : rn < 4) : wp (f_X4_forgetTrialsIn G (x.2.2 u).1 a S) (fun y => y.1 = nI ((M.2 u).2.length - (mKeep (M.2 u).2 rn).length) ∧ bR y.2 x (mSet M u (mForget (M.2 u) rn)) ∧ gFr (bFp x) S y.2) := by
  have hu6 : u < 6 := by have := hW.1.2; omega
  refine wp_mono (c_forget (h.u hu6) (hR.2 u hu6) (hW.2.2.2.1 u hu) ha hr) ?_
  rintro y ⟨y1, y2, y3⟩
  exact ⟨y1, bR.set hR h hu6 y2 y3, y3.mono (fun a ha => uFp_b hu6 ha)⟩
-- ranks and sums
theorem c_rk {u v : Nat} (h : bOk G S x) (hR : bR S x M) (hu : u < 6) (hv : v < 6) : f_X4_ranksBefore G (x.2.2 u).1 (x.2.2 v).1 S = some (mRk (M.2 u) (M.2 v)) := by
  have a1 : gI S 16 (x.2.2 u).1 = (M.2 u).1 6 := (hR.2 u hu).1 6 (by decide)
  have a2 : gI S 16 (x.2.2 v).1 = (M.2 v).1 6 := (hR.2 v hv).1 6 (by decide)
  have a3 : gI S 14 (x.2.2 u).1 = (M.2 u).1 4 := (hR.2 u hu).1 4 (by decide)
  have a4 : gI S 14 (x.2.2 v).1 = (M.2 v).1 4 := (hR.2 v hv).1 4 (by decide)
  unfold f_X4_ranksBefore mRk
  rw [gd_i (h.u hu).1.1, gd_i (h.u hv).1.1, a1, a2, a3, a4]
  by_cases c : (M.2 u).1 6 = (M.2 v).1 6
  · rw [if_pos c, if_pos c]
    by_cases c2 : (M.2 u).1 4 ≤ (M.2 v).1 4
    · rw [if_pos c2, decide_eq_false (Int32.not_lt.mpr c2)]
    · rw [if_neg c2, decide_eq_true (Int32.not_le.mp c2)]
  · rw [if_neg c, if_neg c]
    by_cases c2 : (M.2 u).1 6 ≤ (M.2 v).1 6
    · rw [if_pos c2, decide_eq_false (Int32.not_lt.mpr c2)]
    · rw [if_neg c2, decide_eq_true (Int32.not_le.mp c2)]
theorem c_pos_L (h : bOk G S x) (hR : bR S x M) (hW : bW N M) {j : Nat} (hj : j < mc M) : ∀ (n k : Nat) (s : Int32), k ≤ mc M → mc M - k < n → f_X1_umbrellasBefore_L11 G x.1 (nI j) S n (x.2.2 j).1 s (nI k) = some (s + dS (fun i => if mAh M.2 i j = true then 1 else 0) (mc M) (mc M - k)) := by
  have h6 := hW.1.2
  intro n
  induction n with
  | zero => intro k s _ hn; omega
  | succ n ih =>
    intro k s hk hn
    rw [f_X1_umbrellasBefore_L11, gd_i h.1.1, hR.cnt hW]
    by_cases c : mc M ≤ k
    · rw [if_pos (nI_le c (by omega)), dS_end _ c, Int32.add_zero]
    · rw [if_neg (nI_ge (by omega) (by omega)), c_at h hR hW rfl (by omega), gbx1_R, gd_i (h.u (i := k) (by omega)).1.1, c_rk h hR (u := k) (v := j) (by omega) (by omega), gb_S, dS_at _ (show k < mc M by omega)]
      have key : ∀ (v : Int32), v = (if mAh M.2 k j = true then 1 else 0) → (glt (s + v) fun (x3 : Int32) => glt (nI k + 1) fun (x4 : Int32) => f_X1_umbrellasBefore_L11 G x.1 (nI j) S n (x.2.2 j).1 x3 x4) = some (s + ((if mAh M.2 k j = true then 1 else 0) + dS (fun i => if mAh M.2 i j = true then 1 else 0) (mc M) (mc M - (k + 1)))) := by
        intro v hv
        rw [glt_S, glt_S, nI_1, ih (k + 1) _ (by omega) (by omega), hv, Int32.add_assoc]
      have key0 : mAh M.2 k j = false → (glt (nI k + 1) fun (x4 : Int32) => f_X1_umbrellasBefore_L11 G x.1 (nI j) S n (x.2.2 j).1 s x4) = some (s + ((if mAh M.2 k j = true then 1 else 0) + dS (fun i => if mAh M.2 i j = true then 1 else 0) (mc M) (mc M - (k + 1)))) := by
        intro hv
        have := key 0 (by rw [hv]; rfl)
        rw [glt_S, Int32.add_zero] at this
        exact this
      cases hk1 : mRk (M.2 k) (M.2 j) with
      | true =>
        rw [if_neg (by decide)]
        exact key 1 (by unfold mAh; rw [hk1]; rfl)
      | false =>
        rw [if_pos (show gz false = 0 from rfl)]
        by_cases c2 : j ≤ k
        · rw [if_pos (nI_le c2 (by omega))]
          exact key0 (by unfold mAh; rw [hk1, decide_eq_false (show ¬ k < j by omega)]; rfl)
        · rw [if_neg (nI_ge (by omega) (by omega)), gd_i (h.u (i := j) (by omega)).1.1, c_rk h hR (u := j) (v := k) (by omega) (by omega), gb_S]
          cases hk2 : mRk (M.2 j) (M.2 k) with
          | true =>
            rw [if_neg (by decide)]
            exact key0 (by unfold mAh; rw [hk1, hk2, decide_eq_true (show k < j by omega)]; rfl)
          | false =>
            rw [if_pos (show gz false = 0 from rfl)]
            exact key 1 (by unfold mAh; rw [hk1, hk2, decide_eq_true (show k < j by omega)]; rfl)
theorem c_pos (h : bOk G S x) (hR : bR S x M) (hW : bW N M) {j : Nat} (hj : j < mc M) : f_X1_umbrellasBefore G x.1 (nI j) S = some (mPos M j) := by
  have h6 := hW.1.2
  unfold f_X1_umbrellasBefore
  rw [gd_i h.1.1, c_at h hR hW rfl hj, gbx1_R]
  have := c_pos_L h hR hW hj gN 0 0 (Nat.zero_le _) (by rw [gN_e]; omega)
  rw [Int32.zero_add] at this
  exact this
def mOr (o : Option Nat) : Int32 := match o with
  | some i => nI i
  | none => -1
theorem c_byRank_L (h : bOk G S x) (hR : bR S x M) (hW : bW N M) (v : Int32) : ∀ (n k : Nat), k ≤ mc M → mc M - k < n → f_X1_umbrellaAtRank_L2 G x.1 v S n (nI k) = some (mOr (dF (fun i => decide (mPos M i = v)) (mc M) (mc M - k))) := by
  have h6 := hW.1.2
  intro n
  induction n with
  | zero => intro k _ hn; omega
  | succ n ih =>
    intro k hk hn
    rw [f_X1_umbrellaAtRank_L2, gd_i h.1.1, hR.cnt hW]
    by_cases c : mc M ≤ k
    · rw [if_pos (nI_le c (by omega)), dF_end _ c]
      rfl
    · rw [if_neg (nI_ge (by omega) (by omega)), c_pos h hR hW (show k < mc M by omega), gb_S, dF_at _ (show k < mc M by omega)]
      by_cases c2 : mPos M k = v
      · rw [if_pos c2, if_pos (decide_eq_true c2)]
        rfl
      · rw [if_neg c2, if_neg (by rw [decide_eq_false c2]; decide), glt_S, nI_1, ih (k + 1) (by omega) (by omega)]
theorem c_byRank (h : bOk G S x) (hR : bR S x M) (hW : bW N M) (v : Int32) : f_X1_umbrellaAtRank G x.1 v S = some (mOr (mByRank M v)) := by
  have h6 := hW.1.2
  exact c_byRank_L h hR hW v gN 0 (Nat.zero_le _) (by rw [gN_e]; omega)
theorem c_total_L (h : bOk G S x) (hR : bR S x M) (hW : bW N M) : ∀ (n k : Nat) (s : Int32), k ≤ mc M → mc M - k < n → f_X1_rewardByUmbrellas_L4 G x.1 S n s (nI k) = some (s + dS (fun i => (M.2 i).1 4) (mc M) (mc M - k)) := by
  have h6 := hW.1.2
  intro n
  induction n with
  | zero => intro k s _ hn; omega
  | succ n ih =>
    intro k s hk hn
    rw [f_X1_rewardByUmbrellas_L4, gd_i h.1.1, hR.cnt hW]
    by_cases c : mc M ≤ k
    · rw [if_pos (nI_le c (by omega)), dS_end _ c, Int32.add_zero]
    · have e : gI S 14 (x.2.2 k).1 = (M.2 k).1 4 := (hR.2 k (by omega)).1 4 (by decide)
      rw [if_neg (nI_ge (by omega) (by omega)), c_at h hR hW rfl (by omega), gbx1_R, gd_i (h.u (i := k) (by omega)).1.1, glt_S, glt_S, nI_1, ih (k + 1) _ (by omega) (by omega), e, dS_at _ (show k < mc M by omega), Int32.add_assoc]
theorem c_total (h : bOk G S x) (hR : bR S x M) (hW : bW N M) : f_X1_rewardByUmbrellas G x.1 S = some (mSum M 4) := by
  have h6 := hW.1.2
  have := c_total_L h hR hW gN 0 0 (Nat.zero_le _) (by rw [gN_e]; omega)
  rw [Int32.zero_add] at this
  exact this
theorem c_trials_L (h : bOk G S x) (hR : bR S x M) (hW : bW N M) : ∀ (n k : Nat) (s : Int32), k ≤ mc M → mc M - k < n → f_X1_countTrials_L4 G x.1 S n s (nI k) = some (s + dS (fun i => (M.2 i).1 2) (mc M) (mc M - k)) := by
  have h6 := hW.1.2
  intro n
  induction n with
  | zero => intro k s _ hn; omega
  | succ n ih =>
    intro k s hk hn
    rw [f_X1_countTrials_L4, gd_i h.1.1, hR.cnt hW]
    by_cases c : mc M ≤ k
    · rw [if_pos (nI_le c (by omega)), dS_end _ c, Int32.add_zero]
    · have e : gI S 12 (x.2.2 k).1 = (M.2 k).1 2 := (hR.2 k (by omega)).1 2 (by decide)
      rw [if_neg (nI_ge (by omega) (by omega)), c_at h hR hW rfl (by omega), gbx1_R, gd_i (h.u (i := k) (by omega)).1.1, glt_S, glt_S, nI_1, ih (k + 1) _ (by omega) (by omega), e, dS_at _ (show k < mc M by omega), Int32.add_assoc]
theorem c_trials (h : bOk G S x) (hR : bR S x M) (hW : bW N M) : f_X1_countTrials G x.1 S = some (M.1 7) := by
  have h6 := hW.1.2
  have := c_trials_L h hR hW gN 0 0 (Nat.zero_le _) (by rw [gN_e]; omega)
  rw [Int32.zero_add] at this
  rw [hW.2.2.2.2.2]
  exact this
theorem c_actions (h : bOk G S x) (hR : bR S x M) : f_X1_rewardByActions G x.1 S = some (M.1 4 + M.1 5) := by
  unfold f_X1_rewardByActions
  rw [gd_i h.1.1, hR.1.2.2.2.2.2.1, hR.1.2.2.2.2.2.2]
def mOkay (M : mB) : Bool := decide (mSum M 6 = M.1 3 ∧ mSum M 4 = M.1 4 + M.1 5)
theorem c_agree_L (h : bOk G S x) (hR : bR S x M) (hW : bW N M) : ∀ (n k : Nat) (s : Int32), k ≤ mc M → mc M - k < n → f_X1_agrees_L4 G x.1 S n s (nI k) = some (decide (s + dS (fun i => (M.2 i).1 6) (mc M) (mc M - k) = M.1 3 ∧ mSum M 4 = M.1 4 + M.1 5)) := by
  have h6 := hW.1.2
  intro n
  induction n with
  | zero => intro k s _ hn; omega
  | succ n ih =>
    intro k s hk hn
    rw [f_X1_agrees_L4, gd_i h.1.1, hR.cnt hW]
    by_cases c : mc M ≤ k
    · rw [if_pos (nI_le c (by omega)), dS_end _ c, Int32.add_zero, hR.1.2.2.2.1, c_total h hR hW, c_actions h hR, gb_S, gb_S]
      by_cases c1 : s = M.1 3
      · rw [if_pos c1]
        by_cases c2 : mSum M 4 = M.1 4 + M.1 5
        · rw [if_pos c2, decide_eq_true ⟨c1, c2⟩]
        · rw [if_neg c2, decide_eq_false (fun q => c2 q.2)]
      · rw [if_neg c1, decide_eq_false (fun q => c1 q.1)]
    · have hU := hW.2.2.2.1 k (by omega)
      have e : gI S 16 (x.2.2 k).1 = (M.2 k).1 6 := (hR.2 k (by omega)).1 6 (by decide)
      have e0 : gI S 10 (x.2.2 k).1 = (M.2 k).1 0 := (hR.2 k (by omega)).1 0 (by decide)
      have e3 : gI S 13 (x.2.2 k).1 = (M.2 k).1 3 := (hR.2 k (by omega)).1 3 (by decide)
      have g : ¬ (M.2 k).1 0 < (M.2 k).1 3 := by
        obtain ⟨cap, q1, q2, q3, q4⟩ := hU.1
        rw [q1, hU.2.2.1]
        exact nI_nlt q4 (by omega)
      rw [if_neg (nI_ge (by omega) (by omega)), c_at h hR hW rfl (by omega), gbx1_R, gd_i (h.u (i := k) (by omega)).1.1, e0, e3, if_neg g, c_sums (h.u (i := k) (by omega)) (hR.2 k (by omega)) hU, gb_S, if_neg (by decide), glt_S, glt_S, nI_1, ih (k + 1) _ (by omega) (by omega), e, dS_at _ (show k < mc M by omega), Int32.add_assoc]
theorem c_agree (h : bOk G S x) (hR : bR S x M) (hW : bW N M) : f_X1_agrees G x.1 S = some (mOkay M) := by
  have h6 := hW.1.2
  have := c_agree_L h hR hW gN 0 0 (Nat.zero_le _) (by rw [gN_e]; omega)
  rw [Int32.zero_add] at this
  exact this
end CD
-- situations
section CE
variable {G : gG} {S : gS} {x : gUA} {U : mU} {N : Nat}
theorem c_known_L (h : uOk G S x) (hR : uR S x U) (hU : uW N U) : ∀ (n k : Nat) (s : Int32), k ≤ 16 → 16 - k < n → f_X4_countKnownSituations_L4 G x.1 S n s (nI k) = some (s + dS (fun s => if 0 < mTi U.2 s then 1 else 0) 16 (16 - k)) := by
  intro n
  induction n with
  | zero => intro k s _ hn; omega
  | succ n ih =>
    intro k s hk hn
    rw [f_X4_countKnownSituations_L4, show (16 : Int32) = nI 16 from rfl]
    by_cases c : 16 ≤ k
    · rw [if_pos (nI_le c (by omega)), dS_end _ c, Int32.add_zero]
    · have ht := mTi_le hU k
      rw [if_neg (nI_ge (by omega) (by decide)), gd_i h.1.1, c_times h hR rfl (by omega), gb_S, dS_at _ (show k < 16 by omega), show ct U.2 (2 * k + 1) + ct U.2 (2 * k) = mTi U.2 k from rfl]
      by_cases c2 : 0 < mTi U.2 k
      · rw [if_neg (nI_nle c2 (by omega)), if_pos c2, glt_S, glt_S, nI_1, ih (k + 1) _ (by omega) (by omega), Int32.add_assoc]
      · rw [if_pos (by rw [show mTi U.2 k = 0 by omega]; decide), if_neg c2, glt_S, nI_1, ih (k + 1) _ (by omega) (by omega), Int32.zero_add]
theorem c_known (h : uOk G S x) (hR : uR S x U) (hU : uW N U) : f_X4_countKnownSituations G x.1 S = some (mKn U.2) := by
  have := c_known_L h hR hU gN 0 0 (Nat.zero_le _) (by rw [gN_e]; omega)
  rw [Int32.zero_add] at this
  exact this
theorem c_sb_L (h : uOk G S x) (hR : uR S x U) (hU : uW N U) {s0 : Nat} (hs : s0 < 16) : ∀ (n k : Nat) (s : Int32), k ≤ 16 → 16 - k < n → f_X4_situationsBefore_L11 G x.1 (nI s0) S n (nI (mTi U.2 s0)) s (nI k) = some (s + dS (fun o => if mTi U.2 s0 < mTi U.2 o ∨ (mTi U.2 o = mTi U.2 s0 ∧ o < s0) then 1 else 0) 16 (16 - k)) := by
  intro n
  induction n with
  | zero => intro k s _ hn; omega
  | succ n ih =>
    intro k s hk hn
    rw [f_X4_situationsBefore_L11, show (16 : Int32) = nI 16 from rfl]
    by_cases c : 16 ≤ k
    · rw [if_pos (nI_le c (by omega)), dS_end _ c, Int32.add_zero]
    · have ht := mTi_le hU k
      have ht0 := mTi_le hU s0
      rw [if_neg (nI_ge (by omega) (by decide)), gd_i h.1.1, c_times h hR rfl (by omega), gb_S, dS_at _ (show k < 16 by omega), show ct U.2 (2 * k + 1) + ct U.2 (2 * k) = mTi U.2 k from rfl]
      by_cases c1 : mTi U.2 s0 < mTi U.2 k
      · rw [if_pos (nI_lt c1 (by omega)), if_pos (Or.inl c1), glt_S, glt_S, nI_1, ih (k + 1) _ (by omega) (by omega), Int32.add_assoc]
      · rw [if_neg (nI_nlt (by omega) (by omega))]
        by_cases c2 : mTi U.2 k = mTi U.2 s0
        · rw [if_pos (congrArg nI c2)]
          by_cases c3 : s0 ≤ k
          · rw [if_pos (nI_le c3 (by omega)), if_neg (by omega), glt_S, nI_1, ih (k + 1) _ (by omega) (by omega), Int32.zero_add]
          · rw [if_neg (nI_ge (by omega) (by omega)), if_pos (Or.inr ⟨c2, by omega⟩), glt_S, glt_S, nI_1, ih (k + 1) _ (by omega) (by omega), Int32.add_assoc]
        · rw [if_neg (fun q => c2 ((nI_eq (by omega) (by omega)).mp q)), if_neg (by omega), glt_S, nI_1, ih (k + 1) _ (by omega) (by omega), Int32.zero_add]
theorem c_sb (h : uOk G S x) (hR : uR S x U) (hU : uW N U) {s0 : Nat} (hs : s0 < 16) : f_X4_situationsBefore G x.1 (nI s0) S = some (mSB U.2 s0) := by
  unfold f_X4_situationsBefore
  rw [gd_i h.1.1, c_times h hR rfl hs, gb_S]
  have := c_sb_L h hR hU hs gN 0 0 (Nat.zero_le _) (by rw [gN_e]; omega)
  rw [Int32.zero_add] at this
  exact this
theorem c_sr_L (h : uOk G S x) (hR : uR S x U) (hU : uW N U) (v : Int32) : ∀ (n k : Nat), k ≤ 16 → 16 - k < n → f_X4_situationAtRank_L2 G x.1 v S n (nI k) = some (mOr (dF (fun s => decide (0 < mTi U.2 s ∧ mSB U.2 s = v)) 16 (16 - k))) := by
  intro n
  induction n with
  | zero => intro k _ hn; omega
  | succ n ih =>
    intro k hk hn
    rw [f_X4_situationAtRank_L2, show (16 : Int32) = nI 16 from rfl]
    by_cases c : 16 ≤ k
    · rw [if_pos (nI_le c (by omega)), dF_end _ c]
      rfl
    · have ht := mTi_le hU k
      rw [if_neg (nI_ge (by omega) (by decide)), gd_i h.1.1, c_times h hR rfl (by omega), gb_S, dF_at _ (show k < 16 by omega), show ct U.2 (2 * k + 1) + ct U.2 (2 * k) = mTi U.2 k from rfl]
      by_cases c1 : 0 < mTi U.2 k
      · rw [if_neg (nI_nle c1 (by omega)), c_sb h hR hU (show k < 16 by omega), gb_S]
        by_cases c2 : mSB U.2 k = v
        · rw [if_pos c2, if_pos (decide_eq_true ⟨c1, c2⟩)]
          rfl
        · rw [if_neg c2, if_neg (by rw [decide_eq_false (fun q => c2 q.2)]; decide), glt_S, nI_1, ih (k + 1) (by omega) (by omega)]
      · rw [if_pos (by rw [show mTi U.2 k = 0 by omega]; decide), if_neg (by rw [decide_eq_false (fun q => c1 q.1)]; decide), glt_S, nI_1, ih (k + 1) (by omega) (by omega)]
theorem c_sr (h : uOk G S x) (hR : uR S x U) (hU : uW N U) (v : Int32) : f_X4_situationAtRank G x.1 v S = some (mOr (mSR U.2 v)) := c_sr_L h hR hU v gN 0 (Nat.zero_le _) (by rw [gN_e]; omega)
def mHas (e : Int32) (wd : Nat) : Bool := decide (¬ e &&& (1 <<< (nI wd &&& 31)) = 0)
theorem c_has (h : uOk G S x) (hR : uR S x U) {wd : Nat} {a : Int32} (ha : a = nI wd) : f_X4_hasPassed G x.1 a S = some (mHas (U.1 7) wd) := by
  subst ha
  have e7 : gI S 17 x.1 = U.1 7 := hR.1 7 (by decide)
  unfold f_X4_hasPassed mHas
  rw [gd_i h.1.1, e7]
  by_cases c : U.1 7 &&& (1 <<< (nI wd &&& 31)) = 0
  · rw [if_pos c, decide_eq_false (fun q => q c)]
  · rw [if_neg c, decide_eq_true c]
end CE
