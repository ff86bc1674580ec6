/-! the reference: its row rewritten -/
noncomputable def qF (G : gG) (m : Nat) (a1 a2 a3 z : Int32) (S : gS) : Option (Int32 × gS) := gb (f_X6_rewardNow G m a2 a3 z S) fun (r_8 : Int32) => gb (f_X6_trialOf a2 a3 z r_8) fun (r_10 : Int32) => gb (f_X6_learns G m a1 r_10 S) fun (S_12 : gS) => gb (f_X6_adds G m a1 2 1 S_12) fun (S_14 : gS) => gb (f_X6_adds G m a1 4 r_8 S_14) fun (S_16 : gS) => gb (f_X6_adds G m a1 5 r_8 S_16) fun (S_18 : gS) => gb (gP S_18 10 m) fun (b_19 : Nat) => if z = 1 then (gd (gis G 7 b_19) <| gd (vp_in 4 (gn G b_19)) <| gd (vp_in 4 (gn G b_19)) <| glt (sr S_18 b_19 (Int32.toNatClampNeg 4) ((gr S_18 b_19 (Int32.toNatClampNeg 4)) + r_8)) fun (S_44 : gS) => gb (gP S_44 10 m) fun (b_46 : Nat) => gd (gis G 7 b_46) <| gd (vp_in 6 (gn G b_46)) <| gd (vp_in 6 (gn G b_46)) <| glt (sr S_44 b_46 (Int32.toNatClampNeg 6) ((gr S_44 b_46 (Int32.toNatClampNeg 6)) + z)) fun (S_51 : gS) => gb (gP S_51 10 m) fun (b_53 : Nat) => gd (gis G 7 b_53) <| gd (vp_in 7 (gn G b_53)) <| gd (vp_in 7 (gn G b_53)) <| glt (sr S_51 b_53 (Int32.toNatClampNeg 7) ((gr S_51 b_53 (Int32.toNatClampNeg 7)) + 1)) fun (S_58 : gS) => some (r_8, S_58)) else (gd (gis G 7 b_19) <| gd (vp_in 5 (gn G b_19)) <| gd (vp_in 5 (gn G b_19)) <| glt (sr S_18 b_19 (Int32.toNatClampNeg 5) ((gr S_18 b_19 (Int32.toNatClampNeg 5)) + r_8)) fun (S_25 : gS) => gb (gP S_25 10 m) fun (b_27 : Nat) => gd (gis G 7 b_27) <| gd (vp_in 6 (gn G b_27)) <| gd (vp_in 6 (gn G b_27)) <| glt (sr S_25 b_27 (Int32.toNatClampNeg 6) ((gr S_25 b_27 (Int32.toNatClampNeg 6)) + z)) fun (S_32 : gS) => gb (gP S_32 10 m) fun (b_34 : Nat) => gd (gis G 7 b_34) <| gd (vp_in 7 (gn G b_34)) <| gd (vp_in 7 (gn G b_34)) <| glt (sr S_32 b_34 (Int32.toNatClampNeg 7) ((gr S_32 b_34 (Int32.toNatClampNeg 7)) + 1)) fun (S_39 : gS) => some (r_8, S_39))
theorem qF_eq (G : gG) (m : Nat) (a1 a2 a3 : Int32) (S : gS) : f_X6_tries G m a1 a2 a3 S = (gd (gis G 3 m) <| gb (f_X6_habit G m a1 a2 a3 S) fun (r_3 : Int32) => gb (f_X6_explores G m a1 S) fun (r_5 : Bool) => if (gz r_5) = 0 then qF G m a1 a2 a3 r_3 S else (glt (1 - r_3) fun (x4 : Int32) => qF G m a1 a2 a3 x4 S)) := rfl
theorem rowU.cong {w w' : Nat → Int32} {u : Nat} {U : mU} (h : rowU w u U) (hl : U.2.length ≤ 20) (he : ∀ i, 8 + 28 * u ≤ i → i < 8 + 28 * u + 28 → w' i = w i) : rowU w' u U :=
  ⟨fun k hk => (he _ (by omega) (by omega)).trans (h.1 k hk), fun k t hk => by
    have := (List.getElem?_eq_some_iff.mp hk).1
    exact (he _ (by omega) (by omega)).trans (h.2 k t hk)⟩
theorem rowR.set {w w' : Nat → Int32} {N u : Nat} {M : mB} {U : mU} (hR : rowR w M) (hW : bW N M) (hu : u < mc M) (hU : rowU w' u U) (he : ∀ i, i < 8 + 28 * u ∨ 8 + 28 * u + 28 ≤ i → w' i = w i) : rowR w' (mSet M u U) := by
  refine ⟨fun k hk => (he k (by omega)).trans (hR.1 k hk), fun i hi => ?_⟩
  show rowU w' i (if i = u then U else M.2 i)
  by_cases c : i = u
  · subst c; rw [if_pos rfl]; exact hU
  · rw [if_neg c]
    exact (hR.2 i hi).cong (hW.2.2.2.1 i hi).cap (fun j h1 h2 => he j (by omega))
theorem rowR.nums {w w' n : Nat → Int32} {M : mB} (hR : rowR w M) (hW : ∀ i, i < mc M → (M.2 i).2.length ≤ 20) (h0 : n 0 = M.1 0) (hn : ∀ k, k < 8 → w' k = n k) (he : ∀ i, 8 ≤ i → w' i = w i) : rowR w' (n, M.2) := by
  have hm : mc (n, M.2) = mc M := by unfold mc; show (n 0).toNatClampNeg = _; rw [h0]
  refine ⟨hn, fun i hi => ?_⟩
  rw [hm] at hi
  exact (hR.2 i hi).cong (hW i hi) (fun j h1 h2 => he j (by omega))
section QV
variable {G : gG} {S : gS} {m : Nat} {r : Nat → Nat} {w : Nat → Int32} {M : mB} {N u : Nat}
theorem r_of (h : mSh G S m r) {v k : Nat} {a b : Int32} (ha : a = nI v) (hb : b = nI k) (hi : 8 + 28 * v + k < 176) : f_X6_of G m a b (srow S (r 0) w) = some (w (8 + 28 * v + k)) := by
  rw [q_of h.row ha hb hi, gr_same]
theorem r_puts (h : mSh G S m r) {v k : Nat} {a b : Int32} (x : Int32) (ha : a = nI v) (hb : b = nI k) (hi : 8 + 28 * v + k < 176) : f_X6_puts G m a b x (srow S (r 0) w) = some (srow S (r 0) (upd w (8 + 28 * v + k) x)) := by
  rw [q_puts h.row x ha hb hi, gr_same, srow2]
theorem r_adds (h : mSh G S m r) {v k : Nat} {a b : Int32} (x : Int32) (ha : a = nI v) (hb : b = nI k) (hi : 8 + 28 * v + k < 176) : f_X6_adds G m a b x (srow S (r 0) w) = some (srow S (r 0) (upd w (8 + 28 * v + k) (w (8 + 28 * v + k) + x))) := by
  rw [q_adds h.row x ha hb hi, gr_same, srow2]
-- a trial learnt
theorem r_learn_L (h : mSh G S m r) (hu : u < 6) (t : Int32) : ∀ (n k l : Nat) (w : Nat → Int32), w (8 + 28 * u + 3) = nI l → k ≤ l → l ≤ 19 → l - k < n → wp (f_X6_learns_L24 G m (nI u) t n (nI k) (srow S (r 0) w)) (fun S' => ∃ w', S' = srow S (r 0) w' ∧ w' (8 + 28 * u + 3) = nI (l + 1) ∧ (∀ j, k ≤ j → j < l → w' (16 + 28 * u + j) = w (16 + 28 * u + j + 1)) ∧ w' (16 + 28 * u + l) = t ∧ ∀ i, i ≠ 8 + 28 * u + 3 → i < 16 + 28 * u + k ∨ 16 + 28 * u + l < i → w' i = w i) := by
  intro n
  induction n with
  | zero => intro k l w _ _ _ hn; omega
  | succ n ih =>
    intro k l w hw hk hl hn
    rw [f_X6_learns_L24]
    refine wp_gd h.1 (wp_gb (r_of h (v := u) (k := 3) rfl rfl (by omega)) ?_)
    rw [hw]
    by_cases c : l ≤ k
    · have e : k = l := by omega
      subst e
      refine wp_t (nI_le (Nat.le_refl _) (by omega)) (wp_gb (r_of h (v := u) (k := 3) rfl rfl (by omega)) ?_)
      rw [hw]
      refine wp_gb (r_puts h (v := u) (k := 8 + k) t rfl (nI_add 8 k) (by omega)) ?_
      refine wp_gb (r_adds h (v := u) (k := 3) 1 rfl rfl (by omega)) (wp_ret ⟨_, rfl, ?_, fun j h1 h2 => by omega, ?_, fun i h1 h2 => ?_⟩)
      · rw [upd_at, upd_ne (by omega), hw, nI_1]
      · rw [upd_ne (by omega), show 8 + 28 * u + (8 + k) = 16 + 28 * u + k by omega, upd_at]
      · rw [upd_ne h1, upd_ne (by omega)]
    · refine wp_f (nI_ge (by omega) (by omega)) ?_
      refine wp_gb (r_of h (v := u) (k := 8 + k + 1) rfl (by rw [show (8 : Int32) = nI 8 from rfl, nI_add, nI_1]) (by omega)) ?_
      refine wp_gb (r_puts h (v := u) (k := 8 + k) _ rfl (nI_add 8 k) (by omega)) (wp_glt (fun z ez => ?_))
      rw [nI_1] at ez
      subst ez
      refine wp_mono (ih (k + 1) l (upd w (8 + 28 * u + (8 + k)) (w (8 + 28 * u + (8 + k + 1)))) (by rw [upd_ne (by omega)]; exact hw) (by omega) hl (by omega)) ?_
      rintro S' ⟨w', e1, e2, e3, e4, e5⟩
      refine ⟨w', e1, e2, fun j h1 h2 => ?_, e4, fun i h1 h2 => ?_⟩
      · by_cases q : j = k
        · subst q
          rw [e5 _ (by omega) (by omega), show 16 + 28 * u + j = 8 + 28 * u + (8 + j) by omega, upd_at, show 8 + 28 * u + (8 + j) + 1 = 8 + 28 * u + (8 + j + 1) by omega]
        · rw [e3 j (by omega) h2, upd_ne (by omega)]
      · rw [e5 i h1 (by omega), upd_ne (by omega)]
def mLearn (U : mU) (t : Nat × Nat) : mU := (upd (mRoom U).1 3 (nI ((mRoom U).2.length + 1)), (mRoom U).2 ++ [t])
theorem mLearn_ne {U : mU} {t : Nat × Nat} {k : Nat} (h : k ≠ 3) : (mLearn U t).1 k = (mRoom U).1 k := by
  show upd _ _ _ _ = _
  exact upd_ne h
theorem mLearn_3 {U : mU} {t : Nat × Nat} : (mLearn U t).1 3 = nI ((mRoom U).2.length + 1) := by
  show upd (mRoom U).1 3 (nI ((mRoom U).2.length + 1)) 3 = _
  exact upd_at _ _ _
theorem r_learn (h : mSh G S m r) (hu : u < 6) {U : mU} (hR : rowU w u U) (hU : uW N U) {t : Nat × Nat} {a b : Int32} (ha : a = nI u) (hb : b = tcd t) : wp (f_X6_learns G m a b (srow S (r 0) w)) (fun S' => ∃ w', S' = srow S (r 0) w' ∧ rowU w' u (mLearn U t) ∧ ∀ i, i < 8 + 28 * u ∨ 8 + 28 * u + 28 ≤ i → w' i = w i) := by
  subst ha hb
  have h20 := hU.cap
  obtain ⟨r1, r2, r3, r4, r5⟩ := room_ok hU
  obtain ⟨cap, c1, c2, c3, c4⟩ := hU.1
  have hl : w (8 + 28 * u + 3) = nI U.2.length := (hR.1 3 (by decide)).trans hU.2.2.1
  have hc : w (8 + 28 * u + 0) = nI cap := (hR.1 0 (by decide)).trans c1
  unfold f_X6_learns
  refine wp_gd h.1 (wp_gb (r_of h (v := u) (k := 3) rfl rfl (by omega)) (wp_gb (r_of h (v := u) (k := 0) rfl rfl (by omega)) ?_))
  rw [hl, hc]
  by_cases c : U.2.length = cap
  · refine wp_t (congrArg nI c) (wp_gb (r_adds h (v := u) (k := 3) (-1) rfl rfl (by omega)) ?_)
    have hroom : mRoom U = (upd U.1 3 (nI (U.2.length - 1)), U.2.tail) := by
      unfold mRoom
      rw [if_pos]
      rw [c1, c]
      exact Int32.le_refl _
    obtain ⟨l, el⟩ : ∃ l, U.2.length = l + 1 := ⟨U.2.length - 1, by omega⟩
    have htl : U.2.tail.length = l := by rw [List.length_tail, el]; rfl
    refine wp_mono (r_learn_L h hu (tcd t) gN 0 l (upd w (8 + 28 * u + 3) (w (8 + 28 * u + 3) + -1)) (by rw [upd_at, hl, el, nI_dec]) (Nat.zero_le _) (by omega) (by rw [gN_e]; omega)) ?_
    rintro S' ⟨w', e1, e2, e3, e4, e5⟩
    refine ⟨w', e1, ⟨fun k hk => ?_, fun k t' hk => ?_⟩, fun i hi => by rw [e5 i (by omega) (by omega), upd_ne (by omega)]⟩
    · unfold mLearn
      rw [hroom]
      show _ = upd (upd U.1 3 _) 3 (nI (U.2.tail.length + 1)) k
      by_cases q : k = 3
      · subst q; rw [upd_at, e2, htl]
      · rw [upd_ne q, upd_ne q, e5 _ (by omega) (by omega), upd_ne (by omega)]
        exact hR.1 k hk
    · unfold mLearn at hk
      rw [hroom] at hk
      have hk : (U.2.tail ++ [t])[k]? = some t' := hk
      rcases mU_get hk with ⟨g1, g2⟩ | ⟨j, g1, g2⟩
      · rw [e3 k (Nat.zero_le _) (by omega), upd_ne (by omega)]
        have g3 : U.2[k + 1]? = some t' := by rw [← g1, List.getElem?_tail]
        exact hR.2 (k + 1) t' g3
      · cases j with
        | zero =>
          cases g2
          have g1 : k = l := g1.trans htl
          rw [g1]
          exact e4
        | succ j => cases g2
  · refine wp_f (fun q => c ((nI_eq (by omega) (by omega)).mp q)) ?_
    have hroom : mRoom U = U := by
      unfold mRoom
      rw [if_neg]
      rw [c1, nI_leI (by omega) (by omega)]
      omega
    refine wp_gb (r_of h (v := u) (k := 3) rfl rfl (by omega)) ?_
    rw [hl]
    refine wp_gb (r_puts h (v := u) (k := 8 + U.2.length) _ rfl (nI_add 8 _) (by omega)) (wp_gb (r_adds h (v := u) (k := 3) 1 rfl rfl (by omega)) (wp_ret ⟨_, rfl, ⟨fun k hk => ?_, fun k t' hk => ?_⟩, fun i hi => ?_⟩))
    · unfold mLearn
      rw [hroom]
      show _ = upd U.1 3 (nI (U.2.length + 1)) k
      by_cases q : k = 3
      · subst q; rw [upd_at, upd_at, upd_ne (by omega), hl, nI_1]
      · rw [upd_ne q, upd_ne (by omega), upd_ne (by omega)]
        exact hR.1 k hk
    · unfold mLearn at hk
      rw [hroom] at hk
      have hk : (U.2 ++ [t])[k]? = some t' := hk
      rcases mU_get hk with ⟨g1, g2⟩ | ⟨j, g1, g2⟩
      · rw [upd_ne (by omega), upd_ne (by omega)]
        exact hR.2 k t' g1
      · cases j with
        | zero =>
          cases g2
          have g1 : k = U.2.length := g1
          rw [g1, upd_ne (by omega), show 16 + 28 * u + U.2.length = 8 + 28 * u + (8 + U.2.length) by omega, upd_at]
        | succ j => cases g2
    · rw [upd_ne (by omega), upd_ne (by omega)]
-- one trial
theorem w_ok (h : mSh G S m r) {k : Int32} {n : Nat} (hk : k = nI n) (hn : n < 176) : gP S 10 m = some (r 0) ∧ gis G 7 (r 0) ∧ vp_in k (gn G (r 0)) ∧ Int32.toNatClampNeg k = n := by
  obtain ⟨h1, h2, h3⟩ := h.w
  subst hk
  exact ⟨h1, h2, by rw [h3]; exact vp_nI hn (by decide), nI_clamp (by omega)⟩
theorem q_F (h : mSh G S m r) (hR : rowR w M) (hW : bW N M) (hN : N ≤ 2 ^ 30) {rn wd : Nat} (hu : u < mc M) (hr : rn < 4) (hw : wd < 4) {o : Bool} (ho : mGo M u rn wd = o) {z : Int32} (hz : z = gz o) : wp (qF G m (nI u) (nI rn) (nI wd) z (srow S (r 0) w)) (fun y => y.1 = mG M u rn wd ∧ ∃ w', y.2 = srow S (r 0) w' ∧ rowR w' (mTry M u rn wd)) := by
  have hu6 : u < 6 := by have := hW.1.2; omega
  have hU := hW.2.2.2.1 u hu
  have hRu := hR.2 u hu
  have hrw := rew_ok hW hr hw o
  have hm : mG M u rn wd = mRew M.1 rn wd o := by unfold mG; rw [ho]
  have hT : mT M u rn wd = (2 * (4 * rn + wd) + o.toNat, (mRew M.1 rn wd o + 64).toNatClampNeg) := by unfold mT; rw [hm, ho]
  have hO : o.toNat < 2 := by cases o <;> decide
  have htr : trw (mT M u rn wd) = mRew M.1 rn wd o := by rw [hT]; exact hrw.2.1.symm
  have hcode : ((nI rn + 4 * nI wd) + 16 * z) + 32 * (mRew M.1 rn wd o + 64) = tcd (mT M u rn wd) := by
    have e1 : mRew M.1 rn wd o + 64 = nI (mRew M.1 rn wd o + 64).toNatClampNeg := by
      rw [hrw.2.1]
      have : nI (mRew M.1 rn wd o + 64).toNatClampNeg - 64 + 64 = nI (mRew M.1 rn wd o + 64).toNatClampNeg := Int32.sub_add_cancel _ _
      rw [this, nI_clamp (by omega)]
    have e2 : z = nI o.toNat := by rw [hz]; cases o <;> rfl
    rw [hT, e2]
    unfold tcd
    rw [show cq (2 * (4 * rn + wd) + o.toNat) = rn + 4 * wd + 16 * o.toNat from (cq_eq (by omega) hr hw hO).mpr rfl]
    conv => lhs; rw [e1]
    rw [show (4 : Int32) = nI 4 from rfl, show (16 : Int32) = nI 16 from rfl, show (32 : Int32) = nI 32 from rfl, nI_mul, nI_mul, nI_mul, nI_add, nI_add, nI_add]
  unfold qF
  refine wp_gb (q_rew h.row (o := o) rfl rfl hz (by rw [gr_same]; exact hR)) ?_
  refine wp_gb (show f_X6_trialOf (nI rn) (nI wd) z (mRew M.1 rn wd o) = some (tcd (mT M u rn wd)) by unfold f_X6_trialOf; rw [hcode]) ?_
  refine wp_gbw (r_learn h hu6 hRu hU rfl rfl) ?_
  rintro S1 ⟨w1, rfl, l1, l2⟩
  refine wp_gb (r_adds h (v := u) (k := 2) 1 rfl rfl (by omega)) (wp_gb (r_adds h (v := u) (k := 4) _ rfl rfl (by omega)) (wp_gb (r_adds h (v := u) (k := 5) _ rfl rfl (by omega)) ?_))
  obtain ⟨w4, e4⟩ : ∃ w4, w4 = upd (upd (upd w1 (8 + 28 * u + 2) (w1 (8 + 28 * u + 2) + 1)) (8 + 28 * u + 4) (upd w1 (8 + 28 * u + 2) (w1 (8 + 28 * u + 2) + 1) (8 + 28 * u + 4) + mRew M.1 rn wd o)) (8 + 28 * u + 5) (upd (upd w1 (8 + 28 * u + 2) (w1 (8 + 28 * u + 2) + 1)) (8 + 28 * u + 4) (upd w1 (8 + 28 * u + 2) (w1 (8 + 28 * u + 2) + 1) (8 + 28 * u + 4) + mRew M.1 rn wd o) (8 + 28 * u + 5) + mRew M.1 rn wd o) := ⟨_, rfl⟩
  rw [← e4]
  have hU4 : rowU w4 u (mEnter (mRoom (M.2 u)) (mT M u rn wd)) := by
    refine ⟨fun k hk => ?_, fun k t hk => ?_⟩
    · have hk' : k = 0 ∨ k = 1 ∨ k = 2 ∨ k = 3 ∨ k = 4 ∨ k = 5 ∨ k = 6 ∨ k = 7 := by omega
      have b := l1.1 k hk
      have b2 : w1 (8 + 28 * u + 2) = (mRoom (M.2 u)).1 2 := (l1.1 2 (by decide)).trans (mLearn_ne (by decide))
      have b4 : w1 (8 + 28 * u + 4) = (mRoom (M.2 u)).1 4 := (l1.1 4 (by decide)).trans (mLearn_ne (by decide))
      have b5 : w1 (8 + 28 * u + 5) = (mRoom (M.2 u)).1 5 := (l1.1 5 (by decide)).trans (mLearn_ne (by decide))
      rw [e4]
      rcases hk' with rfl | rfl | rfl | rfl | rfl | rfl | rfl | rfl
      · rw [upd_ne (by omega), upd_ne (by omega), upd_ne (by omega), b]; exact mLearn_ne (by decide)
      · rw [upd_ne (by omega), upd_ne (by omega), upd_ne (by omega), b]; exact mLearn_ne (by decide)
      · rw [upd_ne (by omega), upd_ne (by omega), upd_at, b2]; rfl
      · rw [upd_ne (by omega), upd_ne (by omega), upd_ne (by omega), b]; exact mLearn_3
      · rw [upd_ne (by omega), upd_at, upd_ne (by omega), b4, ← htr]; rfl
      · rw [upd_at, upd_ne (by omega), upd_ne (by omega), b5, ← htr]; rfl
      · rw [upd_ne (by omega), upd_ne (by omega), upd_ne (by omega), b]; exact mLearn_ne (by decide)
      · rw [upd_ne (by omega), upd_ne (by omega), upd_ne (by omega), b]; exact mLearn_ne (by decide)
    · rw [e4, upd_ne (by omega), upd_ne (by omega), upd_ne (by omega)]
      exact l1.2 k t hk
  have hE4 : ∀ i, i < 8 + 28 * u ∨ 8 + 28 * u + 28 ≤ i → w4 i = w i := fun i hi => by
    rw [e4, upd_ne (by omega), upd_ne (by omega), upd_ne (by omega), l2 i hi]
  have hR4 := hR.set hW hu hU4 hE4
  obtain ⟨hWt, hmt⟩ := bW_try hW hN hu hr hw
  have hlen : ∀ i, i < mc M → ((mSet M u (mEnter (mRoom (M.2 u)) (mT M u rn wd))).2 i).2.length ≤ 20 := fun i hi => (hWt.2.2.2.1 i hi).cap
  have hgP : ∀ w', gP (srow S (r 0) w') 10 m = some (r 0) := fun w' => h.w.1
  have h7 := h.w.2.1
  have v4 := (w_ok h (k := 4) (n := 4) rfl (by decide)).2.2.1
  have v5 := (w_ok h (k := 5) (n := 5) rfl (by decide)).2.2.1
  have v6 := (w_ok h (k := 6) (n := 6) rfl (by decide)).2.2.1
  have v7 := (w_ok h (k := 7) (n := 7) rfl (by decide)).2.2.1
  have n4 : w4 4 = M.1 4 := hR4.1 4 (by decide)
  have n5 : w4 5 = M.1 5 := hR4.1 5 (by decide)
  have n6 : w4 6 = M.1 6 := hR4.1 6 (by decide)
  have n7 : w4 7 = M.1 7 := hR4.1 7 (by decide)
  have fin : ∀ w', (∀ k, k < 8 → w' k = mNum M.1 o (mRew M.1 rn wd o) k) → (∀ i, 8 ≤ i → w' i = w4 i) → rowR w' (mTry M u rn wd) := fun w' g1 g2 => by
    have g : mTry M u rn wd = (mNum M.1 o (mRew M.1 rn wd o), (mSet M u (mEnter (mRoom (M.2 u)) (mT M u rn wd))).2) := by
      unfold mTry
      rw [ho, hm]
      rfl
    rw [g]
    exact hR4.nums hlen rfl g1 g2
  subst hz
  cases o with
  | true =>
    refine wp_gb (hgP w4) (wp_t (show gz true = 1 from rfl) (wp_gd h7 (wp_gd v4 (wp_gd v4 (wp_glt fun Sa ea => ?_)))))
    rw [show Int32.toNatClampNeg 4 = 4 from rfl, sr_row, gr_same] at ea
    subst ea
    refine wp_gb (hgP _) (wp_gd h7 (wp_gd v6 (wp_gd v6 (wp_glt fun Sb eb => ?_))))
    rw [show Int32.toNatClampNeg 6 = 6 from rfl, sr_row, gr_same] at eb
    subst eb
    refine wp_gb (hgP _) (wp_gd h7 (wp_gd v7 (wp_gd v7 (wp_glt fun Sc ec => wp_ret ?_))))
    rw [show Int32.toNatClampNeg 7 = 7 from rfl, sr_row, gr_same] at ec
    refine ⟨hm.symm, _, ec, fin _ (fun k hk => ?_) (fun i hi => by rw [upd_ne (by omega), upd_ne (by omega), upd_ne (by omega)])⟩
    have hk' : k = 0 ∨ k = 1 ∨ k = 2 ∨ k = 3 ∨ k = 4 ∨ k = 5 ∨ k = 6 ∨ k = 7 := by omega
    rcases hk' with rfl | rfl | rfl | rfl | rfl | rfl | rfl | rfl
    · rw [upd_ne (by decide), upd_ne (by decide), upd_ne (by decide)]; exact hR4.1 0 (by decide)
    · rw [upd_ne (by decide), upd_ne (by decide), upd_ne (by decide)]; exact hR4.1 1 (by decide)
    · rw [upd_ne (by decide), upd_ne (by decide), upd_ne (by decide)]; exact hR4.1 2 (by decide)
    · rw [upd_ne (by decide), upd_ne (by decide), upd_ne (by decide)]; exact hR4.1 3 (by decide)
    · rw [upd_ne (by decide), upd_ne (by decide), upd_at, n4]; rfl
    · rw [upd_ne (by decide), upd_ne (by decide), upd_ne (by decide)]; exact n5
    · rw [upd_ne (by decide), upd_at, upd_ne (by decide), n6]; rfl
    · rw [upd_at, upd_ne (by decide), upd_ne (by decide), n7]; rfl
  | false =>
    refine wp_gb (hgP w4) (wp_f (show ¬ gz false = 1 by decide) (wp_gd h7 (wp_gd v5 (wp_gd v5 (wp_glt fun Sa ea => ?_)))))
    rw [show Int32.toNatClampNeg 5 = 5 from rfl, sr_row, gr_same] at ea
    subst ea
    refine wp_gb (hgP _) (wp_gd h7 (wp_gd v6 (wp_gd v6 (wp_glt fun Sb eb => ?_))))
    rw [show Int32.toNatClampNeg 6 = 6 from rfl, sr_row, gr_same] at eb
    subst eb
    refine wp_gb (hgP _) (wp_gd h7 (wp_gd v7 (wp_gd v7 (wp_glt fun Sc ec => wp_ret ?_))))
    rw [show Int32.toNatClampNeg 7 = 7 from rfl, sr_row, gr_same] at ec
    refine ⟨hm.symm, _, ec, fin _ (fun k hk => ?_) (fun i hi => by rw [upd_ne (by omega), upd_ne (by omega), upd_ne (by omega)])⟩
    have hk' : k = 0 ∨ k = 1 ∨ k = 2 ∨ k = 3 ∨ k = 4 ∨ k = 5 ∨ k = 6 ∨ k = 7 := by omega
    rcases hk' with rfl | rfl | rfl | rfl | rfl | rfl | rfl | rfl
    · rw [upd_ne (by decide), upd_ne (by decide), upd_ne (by decide)]; exact hR4.1 0 (by decide)
    · rw [upd_ne (by decide), upd_ne (by decide), upd_ne (by decide)]; exact hR4.1 1 (by decide)
    · rw [upd_ne (by decide), upd_ne (by decide), upd_ne (by decide)]; exact hR4.1 2 (by decide)
    · rw [upd_ne (by decide), upd_ne (by decide), upd_ne (by decide)]; exact hR4.1 3 (by decide)
    · rw [upd_ne (by decide), upd_ne (by decide), upd_ne (by decide)]; exact n4
    · rw [upd_ne (by decide), upd_ne (by decide), upd_at, n5]; rfl
    · rw [upd_ne (by decide), upd_at, upd_ne (by decide), gz_f, Int32.add_zero]; exact n6
    · rw [upd_at, upd_ne (by decide), upd_ne (by decide), n7]; rfl
theorem q_try (h : mSh G S m r) (hR : rowR w M) (hW : bW N M) (hN : N ≤ 2 ^ 30) {rn wd : Nat} (hu : u < mc M) (hr : rn < 4) (hw : wd < 4) : wp (f_X6_tries G m (nI u) (nI rn) (nI wd) (srow S (r 0) w)) (fun y => y.1 = mG M u rn wd ∧ ∃ w', y.2 = srow S (r 0) w' ∧ rowR w' (mTry M u rn wd)) := by
  have hu6 : u < 6 := by have := hW.1.2; omega
  have hU := hW.2.2.2.1 u hu
  have hRu : rowU (gr (srow S (r 0) w) (r 0)) u (M.2 u) := by rw [gr_same]; exact hR.2 u hu
  rw [qF_eq]
  refine wp_gd h.1 (wp_gb (q_habit h.row rfl rfl rfl hu6 hr hw hRu hU) (wp_gb (q_exp h.row rfl hu6 hRu) ?_))
  cases he : mExp (M.2 u).1 with
  | false =>
    refine wp_t (show gz false = 0 from rfl) ?_
    exact q_F h hR hW hN hu hr hw (o := mHab (M.2 u).2 (4 * rn + wd)) (by unfold mGo; rw [he]; cases mHab (M.2 u).2 (4 * rn + wd) <;> rfl) rfl
  | true =>
    refine wp_f (by decide) (wp_glt (fun z ez => ?_))
    exact q_F h hR hW hN hu hr hw (o := !mHab (M.2 u).2 (4 * rn + wd)) (by unfold mGo; rw [he]; cases mHab (M.2 u).2 (4 * rn + wd) <;> rfl) (by rw [ez]; cases mHab (M.2 u).2 (4 * rn + wd) <;> rfl)
theorem q_train_L {rn wd : Nat} (h : mSh G S m r) (hr : rn < 4) (hw : wd < 4) : ∀ (n d k N : Nat) (s : Int32) (M : mB) (w : Nat → Int32), d < n → k + d ≤ 1000 → N + 64 * d ≤ 2 ^ 30 → rowR w M → bW N M → u < mc M → wp (f_X6_trains_L6 G m (nI u) (nI rn) (nI wd) (nI (k + d)) n s (nI k) (srow S (r 0) w)) (fun y => y.1 = (mTrs u rn wd d s M).1 ∧ ∃ w', y.2 = srow S (r 0) w' ∧ rowR w' (mTrs u rn wd d s M).2) := by
  intro n
  induction n with
  | zero => intro d k N s M w hd; omega
  | succ n ih =>
    intro d k N s M w hd hk hN hR hW hu
    rw [f_X6_trains_L6]
    cases d with
    | zero => exact wp_t (nI_le (by omega) (by omega)) (wp_ret ⟨rfl, w, rfl, hR⟩)
    | succ d =>
      refine wp_f (nI_ge (by omega) (by omega)) (wp_gd h.1 (wp_gb2w (q_try h hR hW (by omega) hu hr hw) ?_))
      rintro g S1 ⟨g1, w1, rfl, g2⟩
      refine wp_glt (fun z ez => wp_glt (fun z2 ez2 => ?_))
      rw [nI_1] at ez2
      have g1 : g = mG M u rn wd := g1
      rw [g1] at ez
      subst ez ez2
      obtain ⟨w1', w2'⟩ := bW_try hW (by omega) hu hr hw
      rw [show k + (d + 1) = k + 1 + d by omega]
      exact ih d (k + 1) (N + 64) _ (mTry M u rn wd) w1 (by omega) (by omega) (by omega) g2 w1' (by rw [w2']; exact hu)
theorem q_train (h : mSh G S m r) (hR : rowR w M) (hW : bW N M) (hN : N + 640 ≤ 2 ^ 30) {rn wd t : Nat} {a b c d : Int32} (hd : d = nI u) (ha : a = nI rn) (hb : b = nI wd) (hc : c = nI t) (hu : u < mc M) (hr : rn < 4) (hw : wd < 4) (ht : t ≤ 9) : wp (f_X6_trains G m d a b c (srow S (r 0) w)) (fun y => y.1 = (mTrs u rn wd t 0 M).1 ∧ ∃ w', y.2 = srow S (r 0) w' ∧ rowR w' (mTrs u rn wd t 0 M).2) := by
  subst hd ha hb hc
  have := q_train_L (G := G) (S := S) (r := r) (m := m) (u := u) h hr hw gN t 0 N 0 M w (by rw [gN_e]; omega) (by omega) (by omega) hR hW hu
  rw [Nat.zero_add] at this
  exact this
end QV
