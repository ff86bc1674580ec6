/-! queries, second half: both sides alike -/
section DC
variable {G : gG} {S : gS} {T : gT} {A : aW} {N : Nat} {X : mX} {α : Type}
theorem rq_t {a b : Int32} (h : (mLev a && mLev b) = true) : f_X5_requireSituation a b = some (.inr ()) := by
  obtain ⟨h1, h2⟩ := (Bool.and_eq_true _ _).mp h
  unfold f_X5_requireSituation
  rw [c_lev, gb_S, h1, if_neg (by decide), c_lev, gb_S, h2, if_neg (by decide)]
theorem rq_f {a b : Int32} (h : (mLev a && mLev b) = false) : f_X5_requireSituation a b = some (.inl eIA) := by
  unfold f_X5_requireSituation
  rw [c_lev, gb_S]
  cases h1 : mLev a with
  | false => rfl
  | true =>
    rw [h1] at h
    have h2 : mLev b = false := h
    rw [if_neg (by decide), c_lev, gb_S, h2]
    rfl
theorem lev2 {a b : Int32} (h : (mLev a && mLev b) = true) : ∃ r w, r < 4 ∧ w < 4 ∧ a = nI r ∧ b = nI w := by
  obtain ⟨h1, h2⟩ := (Bool.and_eq_true _ _).mp h
  obtain ⟨r, r1, r2, -⟩ := mLev_t h1
  obtain ⟨w, w1, w2, -⟩ := mLev_t h2
  exact ⟨r, w, r1, w1, r2, w2⟩
theorem n_ask {S' : gS} (hc : wC G S' T A X X) (a b c : Int32) : f_X6_notAsk G (am A) a b c S' = some (nI (mFor X.1.1 a (mLev b && mLev c))) := by
  unfold f_X6_notAsk
  rw [gd_i hc.m.1, n_train hc.m hc.2.2.1, gb_S, show mBtw 1 1 9 = true from by decide, Bool.and_true]
-- the rewards of situations
theorem x_reward (h : wR G S T A N X) (a b : Int32) (o : Bool) : tAsk G S T A X [eIA] (f_X5_reward G (ax A) a b o S) (f_X6_reward G (am A) a b o) := by
  have hb := h.1.1.2.1.1 0 (by decide)
  cases hs : (mLev a && mLev b) with
  | false =>
    refine ⟨.inl eIA, ?_, fun S' hc => ask_no hc (i := 0) (b := 0) ?_ rfl⟩
    · unfold f_X5_reward
      rw [rq_f hs, gbx1_L]
    · unfold f_X6_reward
      rw [gd_i hc.m.1, glt_S, n_sit, gb_S, hs, if_pos (show gz false = 0 from rfl), fails_eq hc.m.1, gb2_S]
      rfl
  | true =>
    obtain ⟨r, w, r1, w1, rfl, rfl⟩ := lev2 hs
    refine ⟨.inr (mRew X.1.1.1 r w o), ?_, fun S' hc => ask_ok hc ?_⟩
    · unfold f_X5_reward
      rw [rq_t hs, gbx1_R, gd_i h.1.1.1.1, h.1.1.1.2.1, gb_S, gd_i hb.1.1, c_rew hb h.1.2.1.1 rfl rfl, gb_S]
    · unfold f_X6_reward
      rw [gd_i hc.m.1, glt_S, n_sit, gb_S, hs, if_neg (show ¬ gz true = 0 by decide)]
      cases o with
      | false => rw [if_pos (show gz false = 0 from rfl), q_rew hc.z.m (o := false) (c := 0) rfl rfl rfl hc.z.2.2.1, gb_S]
      | true => rw [if_neg (show ¬ gz true = 0 by decide), q_rew hc.z.m (o := true) (c := 1) rfl rfl rfl hc.z.2.2.1, gb_S]
theorem x_should (h : wR G S T A N X) (a b : Int32) : tAsk G S T A X [eIA] (f_X5_shouldOpen G (ax A) a b S) (f_X6_shouldOpen G (am A) a b) := by
  have hb := h.1.1.2.1.1 0 (by decide)
  cases hs : (mLev a && mLev b) with
  | false =>
    refine ⟨.inl eIA, ?_, fun S' hc => ask_no hc (i := 0) (b := false) ?_ rfl⟩
    · unfold f_X5_shouldOpen
      rw [rq_f hs, gbx1_L]
    · unfold f_X6_shouldOpen
      rw [gd_i hc.m.1, glt_S, n_sit, gb_S, hs, if_pos (show gz false = 0 from rfl), fails_eq hc.m.1, gb2_S, if_pos (by decide)]
      rfl
  | true =>
    obtain ⟨r, w, r1, w1, rfl, rfl⟩ := lev2 hs
    refine ⟨.inr (mPay X.1.1.1 r w), ?_, fun S' hc => ask_ok hc ?_⟩
    · unfold f_X5_shouldOpen
      rw [rq_t hs, gbx1_R, gd_i h.1.1.1.1, h.1.1.1.2.1, gb_S, gd_i hb.1.1, c_pay hb h.1.2.1.1 rfl rfl, gb_S]
    · unfold f_X6_shouldOpen
      rw [gd_i hc.m.1, glt_S, n_sit, gb_S, hs, if_neg (show ¬ gz true = 0 by decide), q_pay hc.z.m rfl rfl hc.z.2.2.1, gb_S]
-- what an umbrella does in a situation: three cases, once
theorem x_sitU (h : wR G S T A N X) {a b c : Int32} {F5 : Option (String ⊕ α)} {F6 : gS → Option (α × gS)} (b0 : α)
    (e1 : mUmb X.1.1 a = false → F5 = some (.inl eIO)) (e2 : ∀ u, u < mc X.1.1 → a = nI u → (mLev b && mLev c) = false → F5 = some (.inl eIA))
    (e3 : ∀ S' e, wC G S' T A X X → e ≠ 0 → mFor X.1.1 a (mLev b && mLev c) = e → F6 S' = some (b0, sI (sI S' 30 (am A) 0) 30 (am A) (nI e)))
    (e4 : ∀ u r w, u < mc X.1.1 → r < 4 → w < 4 → a = nI u → b = nI r → c = nI w → mUmb X.1.1 a = true → (mLev b && mLev c) = true → ∃ v, F5 = some (.inr v) ∧ ∀ S', wC G S' T A X X → F6 S' = some (v, sI S' 30 (am A) 0)) : tAsk G S T A X [eIO, eIA] F5 F6 := by
  cases hu : mUmb X.1.1 a with
  | false =>
    exact ⟨.inl eIO, e1 hu, fun S' hc => ask_no hc (i := 0) (b := b0) (e3 S' 1 hc (by decide) (by unfold mFor; rw [hu]; rfl)) rfl⟩
  | true =>
    obtain ⟨u, u1, u2, u3⟩ := mUmb_t h.2.1 hu
    cases hs : (mLev b && mLev c) with
    | false => exact ⟨.inl eIA, e2 u u1 u2 hs, fun S' hc => ask_no hc (i := 1) (b := b0) (e3 S' 2 hc (by decide) (by unfold mFor; rw [hu, hs]; rfl)) rfl⟩
    | true =>
      obtain ⟨r, w, r1, w1, r2, w2⟩ := lev2 hs
      obtain ⟨v, v1, v2⟩ := e4 u r w u1 r1 w1 u2 r2 w2 hu hs
      exact ⟨.inr v, v1, fun S' hc => ask_ok hc (v2 S' hc)⟩
theorem mFor_ok {M : mB} {a : Int32} {ok : Bool} (h1 : mUmb M a = true) (h2 : ok = true) : mFor M a ok = 0 := by
  unfold mFor
  rw [h1, h2]
  rfl
theorem mFor_lt {M : mB} {a : Int32} {ok : Bool} : mFor M a ok < 3 := by
  unfold mFor
  split
  · split <;> decide
  · decide
theorem nI_ne {e : Nat} (h : e ≠ 0) (h3 : e < 3) : ¬ nI e = 0 := fun q => h ((nI_0iff (by omega)).mp q)
theorem x_would (h : wR G S T A N X) (a b c : Int32) : tAsk G S T A X [eIO, eIA] (f_X5_wouldOpen G (ax A) a b c S) (f_X6_wouldOpen G (am A) a b c) := by
  have h6 := h.2.1.1.2
  have hb := h.1.1.2.1.1 0 (by decide)
  refine x_sitU h (a := a) (b := b) (c := c) false (fun hu => ua_f h hu) (fun u u1 u2 hs => ?_) (fun S' e hc he hf => ?_) (fun u r w u1 r1 w1 u2 r2 w2 hu hs => ?_)
  · unfold f_X5_wouldOpen
    rw [ua_t h u2 u1, rq_f hs, gbx1_L]
  · have h3 : e < 3 := hf ▸ mFor_lt
    unfold f_X6_wouldOpen
    rw [gd_i hc.m.1, glt_S, n_ask hc.z, hf, gb_S, if_neg (nI_ne he h3), fails_eq hc.m.1, gb2_S, if_pos (by decide)]
  · have hU := hb.u (i := u) (by omega)
    have es : (nI r * 4) + nI w = nI (4 * r + w) := by rw [show (4 : Int32) = nI 4 from rfl, nI_mul, nI_add, Nat.mul_comm]
    refine ⟨mHab (X.1.1.2 u).2 (4 * r + w), ?_, fun S' hc => ?_⟩
    · unfold f_X5_wouldOpen f_X5_situationOf
      rw [ua_t h u2 u1, rq_t hs, gbx1_R, gb_S, gd_i hU.1.1, r2, w2, es, c_opens hU (h.1.2.1.1.2 u (by omega)) (h.2.1.2.2.2.1 u u1) rfl (by omega), gb_S]
    · unfold f_X6_wouldOpen
      rw [gd_i hc.m.1, glt_S, n_ask hc.z, mFor_ok hu hs, gb_S, if_pos (by decide), q_habit hc.z.m u2 r2 w2 (by omega) r1 w1 (hc.z.2.2.1.2 u u1) (h.2.1.2.2.2.1 u u1), gb_S]
      cases mHab (X.1.1.2 u).2 (4 * r + w) <;> rfl
theorem c_caseOf {r w : Nat} {a b : Int32} (ha : a = nI r) (hb : b = nI w) (o : Bool) : f_X5_caseOf a b o = some (nI (2 * (4 * r + w) + o.toNat)) := by
  subst ha hb
  unfold f_X5_caseOf f_X5_situationOf
  rw [gb_S, show (nI r * 4) + nI w = nI (4 * r + w) by rw [show (4 : Int32) = nI 4 from rfl, nI_mul, nI_add, Nat.mul_comm], c_case, gb_S]
theorem q_triedB {S' : gS} (h : wR G S T A N X) (hc : wC G S' T A X X) {u r w : Nat} {a b c d : Int32} (u1 : u < mc X.1.1) (r1 : r < 4) (w1 : w < 4) (u2 : a = nI u) (r2 : b = nI r) (w2 : c = nI w) (o : Bool) (hd : d = gz o) : f_X6_triedTimes G (am A) a b c d S' = some (nI (ct (X.1.1.2 u).2 (2 * (4 * r + w) + o.toNat))) := by
  have h6 := h.2.1.1.2
  exact q_tried hc.m u2 r2 w2 (hd.trans (by cases o <;> rfl)) (by omega) r1 w1 (by cases o <;> decide) (hc.2.2.1.2 u u1) (h.2.1.2.2.2.1 u u1)
theorem q_sumB {S' : gS} (h : wR G S T A N X) (hc : wC G S' T A X X) {u r w : Nat} {a b c d : Int32} (u1 : u < mc X.1.1) (r1 : r < 4) (w1 : w < 4) (u2 : a = nI u) (r2 : b = nI r) (w2 : c = nI w) (o : Bool) (hd : d = gz o) : f_X6_sumOf G (am A) a b c d S' = some (sm (X.1.1.2 u).2 (2 * (4 * r + w) + o.toNat)) := by
  have h6 := h.2.1.1.2
  exact q_sum hc.m u2 r2 w2 (hd.trans (by cases o <;> rfl)) (by omega) r1 w1 (by cases o <;> decide) (hc.2.2.1.2 u u1) (h.2.1.2.2.2.1 u u1)
theorem x_tried (h : wR G S T A N X) (a b c : Int32) (o : Bool) : tAsk G S T A X [eIO, eIA] (f_X5_timesTried G (ax A) a b c o S) (f_X6_timesTried G (am A) a b c o) := by
  have h6 := h.2.1.1.2
  have hb := h.1.1.2.1.1 0 (by decide)
  refine x_sitU h (a := a) (b := b) (c := c) 0 (fun hu => ua_f h hu) (fun u u1 u2 hs => ?_) (fun S' e hc he hf => ?_) (fun u r w u1 r1 w1 u2 r2 w2 hu hs => ?_)
  · unfold f_X5_timesTried
    rw [ua_t h u2 u1, rq_f hs, gbx1_L]
  · have h3 : e < 3 := hf ▸ mFor_lt
    unfold f_X6_timesTried
    rw [gd_i hc.m.1, glt_S, n_ask hc.z, hf, gb_S, if_neg (nI_ne he h3), fails_eq hc.m.1, gb2_S]
  · have hU := hb.u (i := u) (by omega)
    have ho : o.toNat < 2 := by cases o <;> decide
    refine ⟨nI (ct (X.1.1.2 u).2 (2 * (4 * r + w) + o.toNat)), ?_, fun S' hc => ?_⟩
    · unfold f_X5_timesTried
      rw [ua_t h u2 u1, rq_t hs, gbx1_R, gd_i hU.1.1, hU.p2.1, gb_S, c_caseOf r2 w2, gb_S, c_val hU.p2.2.1 hU.p2.2.2 (by omega) (by decide), gb_S, ((h.1.2.1.1.2 u (by omega)).2.2 _ (by omega)).1]
    · unfold f_X6_timesTried
      rw [gd_i hc.m.1, glt_S, n_ask hc.z, mFor_ok hu hs, gb_S, if_pos (by decide)]
      cases o with
      | false => rw [if_pos (show gz false = 0 from rfl), q_triedB (d := 0) h hc.z u1 r1 w1 u2 r2 w2 false rfl, gb_S]
      | true => rw [if_neg (show ¬ gz true = 0 by decide), q_triedB (d := 1) h hc.z u1 r1 w1 u2 r2 w2 true rfl, gb_S]
theorem rs_eq {S' : gS} (h : wR G S T A N X) (hc : wC G S' T A X X) {u r w : Nat} {a b c : Int32} (u1 : u < mc X.1.1) (r1 : r < 4) (w1 : w < 4) (u2 : a = nI u) (r2 : b = nI r) (w2 : c = nI w) (hu : mUmb X.1.1 a = true) (hs : (mLev b && mLev c) = true) (o : Bool) : f_X6_rewardSum G (am A) a b c o S' = some (sm (X.1.1.2 u).2 (2 * (4 * r + w) + o.toNat), sI S' 30 (am A) 0) := by
  unfold f_X6_rewardSum
  rw [gd_i hc.m.1, glt_S, n_ask hc.z, mFor_ok hu hs, gb_S, if_pos (by decide)]
  cases o with
  | false => rw [if_pos (show gz false = 0 from rfl), q_sumB (d := 0) h hc.z u1 r1 w1 u2 r2 w2 false rfl, gb_S]
  | true => rw [if_neg (show ¬ gz true = 0 by decide), q_sumB (d := 1) h hc.z u1 r1 w1 u2 r2 w2 true rfl, gb_S]
theorem rs_no {S' : gS} (hc : wC G S' T A X X) {a b c : Int32} {e : Nat} (he : e ≠ 0) (hf : mFor X.1.1 a (mLev b && mLev c) = e) (o : Bool) : f_X6_rewardSum G (am A) a b c o S' = some (0, sI (sI S' 30 (am A) 0) 30 (am A) (nI e)) := by
  have h3 : e < 3 := hf ▸ mFor_lt
  unfold f_X6_rewardSum
  rw [gd_i hc.m.1, glt_S, n_ask hc.z, hf, gb_S, if_neg (nI_ne he h3), fails_eq hc.m.1, gb2_S]
theorem x_sumQ (h : wR G S T A N X) (a b c : Int32) (o : Bool) : tAsk G S T A X [eIO, eIA] (f_X5_rewardSum G (ax A) a b c o S) (f_X6_rewardSum G (am A) a b c o) := by
  have h6 := h.2.1.1.2
  have hb := h.1.1.2.1.1 0 (by decide)
  refine x_sitU h (a := a) (b := b) (c := c) 0 (fun hu => ua_f h hu) (fun u u1 u2 hs => ?_) (fun S' e hc he hf => rs_no hc he hf o) (fun u r w u1 r1 w1 u2 r2 w2 hu hs => ?_)
  · unfold f_X5_rewardSum
    rw [ua_t h u2 u1, rq_f hs, gbx1_L]
  · have hU := hb.u (i := u) (by omega)
    have ho : o.toNat < 2 := by cases o <;> decide
    refine ⟨sm (X.1.1.2 u).2 (2 * (4 * r + w) + o.toNat), ?_, fun S' hc => rs_eq h hc u1 r1 w1 u2 r2 w2 hu hs o⟩
    unfold f_X5_rewardSum
    rw [ua_t h u2 u1, rq_t hs, gbx1_R, gd_i hU.1.1, hU.p3.1, gb_S, c_caseOf r2 w2, gb_S, c_val hU.p3.2.1 hU.p3.2.2 (by omega) (by decide), gb_S, ((h.1.2.1.1.2 u (by omega)).2.2 _ (by omega)).2]
theorem x_sumT (h : wR G S T A N X) (a b c : Int32) (o : Bool) : tAsk G S T A X [eIO, eIA] (f_X5_rewardSumByTrials G (ax A) a b c o S) (f_X6_rewardSumByTrials G (am A) a b c o) := by
  have h6 := h.2.1.1.2
  have hb := h.1.1.2.1.1 0 (by decide)
  refine x_sitU h (a := a) (b := b) (c := c) 0 (fun hu => ua_f h hu) (fun u u1 u2 hs => ?_) (fun S' e hc he hf => ?_) (fun u r w u1 r1 w1 u2 r2 w2 hu hs => ?_)
  · unfold f_X5_rewardSumByTrials
    rw [ua_t h u2 u1, rq_f hs, gbx1_L]
  · unfold f_X6_rewardSumByTrials
    rw [gd_i hc.m.1, gb2_id]
    exact rs_no hc he hf o
  · have hU := hb.u (i := u) (by omega)
    have ho : o.toNat < 2 := by cases o <;> decide
    refine ⟨sm (X.1.1.2 u).2 (2 * (4 * r + w) + o.toNat), ?_, fun S' hc => ?_⟩
    · unfold f_X5_rewardSumByTrials
      rw [ua_t h u2 u1, rq_t hs, gbx1_R, c_caseOf r2 w2, gb_S, gd_i hU.1.1, c_addup hU (h.1.2.1.1.2 u (by omega)) (h.2.1.2.2.2.1 u u1) rfl (by omega), gb_S]
    · unfold f_X6_rewardSumByTrials
      rw [gd_i hc.m.1, gb2_id]
      exact rs_eq h hc u1 r1 w1 u2 r2 w2 hu hs o
theorem x_mean (hfl : flOk) (h : wR G S T A N X) (a b c : Int32) (o : Bool) : tAsk G S T A X [eIO, eIA, eNS] (f_X5_meanReward G (ax A) a b c o S) (f_X6_meanReward G (am A) a b c o) := by
  have h6 := h.2.1.1.2
  have hb := h.1.1.2.1.1 0 (by decide)
  have bad : ∀ S' e, wC G S' T A X X → e ≠ 0 → mFor X.1.1 a (mLev b && mLev c) = e → f_X6_meanReward G (am A) a b c o S' = some (FP.dconst0, sI (sI S' 30 (am A) 0) 30 (am A) (nI e)) := by
    intro S' e hc he hf
    have h3 : e < 3 := hf ▸ mFor_lt
    unfold f_X6_meanReward
    rw [gd_i hc.m.1, rs_no hc he hf, gb2_S, th_at, if_neg (nI_ne he h3)]
  cases hu : mUmb X.1.1 a with
  | false =>
    refine ⟨.inl eIO, ua_f h hu, fun S' hc => ask_no hc (i := 0) (b := FP.dconst0) (bad S' 1 hc (by decide) (by unfold mFor; rw [hu]; rfl)) rfl⟩
  | true =>
    obtain ⟨u, u1, u2, u3⟩ := mUmb_t h.2.1 hu
    have hU := hb.u (i := u) (by omega)
    have hUW := h.2.1.2.2.2.1 u u1
    have h20 := hUW.cap
    cases hs : (mLev b && mLev c) with
    | false =>
      refine ⟨.inl eIA, ?_, fun S' hc => ask_no hc (i := 1) (b := FP.dconst0) (bad S' 2 hc (by decide) (by unfold mFor; rw [hu, hs]; rfl)) rfl⟩
      unfold f_X5_meanReward
      rw [ua_t h u2 u1, rq_f hs, gbx1_L]
    | true =>
      obtain ⟨r, w, r1, w1, r2, w2⟩ := lev2 hs
      have ho : o.toNat < 2 := by cases o <;> decide
      have hl := ct_le (X.1.1.2 u).2 (2 * (4 * r + w) + o.toNat)
      have hR := (h.1.2.1.1.2 u (by omega)).2.2 (2 * (4 * r + w) + o.toNat) (by omega)
      have six : ∀ S', wC G S' T A X X → f_X6_meanReward G (am A) a b c o S' = if nI (ct (X.1.1.2 u).2 (2 * (4 * r + w) + o.toNat)) = 0 then (gb2 (f_X6_fails G (am A) 3 (sI S' 30 (am A) 0)) fun r_12 S_13 => some (FP.i2d r_12, S_13)) else (gd (vf_n64 (FP.ddiv (FP.i2d (sm (X.1.1.2 u).2 (2 * (4 * r + w) + o.toNat))) (FP.i2d (nI (ct (X.1.1.2 u).2 (2 * (4 * r + w) + o.toNat)))))) <| some (FP.ddiv (FP.i2d (sm (X.1.1.2 u).2 (2 * (4 * r + w) + o.toNat))) (FP.i2d (nI (ct (X.1.1.2 u).2 (2 * (4 * r + w) + o.toNat)))), sI S' 30 (am A) 0)) := by
        intro S' hc
        unfold f_X6_meanReward
        rw [gd_i hc.m.1, rs_eq h hc u1 r1 w1 u2 r2 w2 hu hs, gb2_S, th_at, if_pos rfl]
        cases o with
        | false => rw [if_pos (show gz false = 0 from rfl), q_triedB (d := 0) h hc.z u1 r1 w1 u2 r2 w2 false rfl, gb_S]
        | true => rw [if_neg (show ¬ gz true = 0 by decide), q_triedB (d := 1) h hc.z u1 r1 w1 u2 r2 w2 true rfl, gb_S]
      have five : f_X5_meanReward G (ax A) a b c o S = if nI (ct (X.1.1.2 u).2 (2 * (4 * r + w) + o.toNat)) = 0 then some (.inl eNS) else (gd (vf_n64 (FP.ddiv (FP.i2d (sm (X.1.1.2 u).2 (2 * (4 * r + w) + o.toNat))) (FP.i2d (nI (ct (X.1.1.2 u).2 (2 * (4 * r + w) + o.toNat)))))) <| some (.inr (FP.ddiv (FP.i2d (sm (X.1.1.2 u).2 (2 * (4 * r + w) + o.toNat))) (FP.i2d (nI (ct (X.1.1.2 u).2 (2 * (4 * r + w) + o.toNat))))))) := by
        unfold f_X5_meanReward
        rw [ua_t h u2 u1, rq_t hs, gbx1_R, c_caseOf r2 w2, gb_S, gd_i hU.1.1, hU.p2.1, gb_S, c_val hU.p2.2.1 hU.p2.2.2 (by omega) (by decide), gb_S, hR.1, hU.p3.1, gb_S, c_val hU.p3.2.1 hU.p3.2.2 (by omega) (by decide), gb_S, hR.2]
      by_cases q : nI (ct (X.1.1.2 u).2 (2 * (4 * r + w) + o.toNat)) = 0
      · refine ⟨.inl eNS, by rw [five, if_pos q], fun S' hc => ask_no hc (i := 2) (b := FP.i2d 0) ?_ rfl⟩
        rw [six S' hc, if_pos q, fails_eq hc.m.1, gb2_S]
        rfl
      · have hn := hfl.1 (sm (X.1.1.2 u).2 (2 * (4 * r + w) + o.toNat)) _ q
        exact ⟨.inr _, by rw [five, if_neg q, gd_i hn], fun S' hc => ask_ok hc (by rw [six S' hc, if_neg q, gd_i hn])⟩
theorem x_explores (h : wR G S T A N X) (a : Int32) : tAsk G S T A X [eIO] (f_X5_exploresNext G (ax A) a S) (f_X6_exploresNext G (am A) a) := by
  have h6 := h.2.1.1.2
  cases hu : mUmb X.1.1 a with
  | false =>
    refine ⟨.inl eIO, ua_f h hu, fun S' hc => ask_no hc (i := 0) (b := false) ?_ rfl⟩
    unfold f_X6_exploresNext
    rw [gd_i hc.m.1, glt_S, n_umb hc.z.m hc.z.2.2.1, hu, gb_S, if_pos (show gz false = 0 from rfl), fails_eq hc.m.1, gb2_S, if_pos (by decide)]
    rfl
  | true =>
    obtain ⟨u, u1, u2, u3⟩ := mUmb_t h.2.1 hu
    have hU := (h.1.1.2.1.1 0 (by decide)).u (i := u) (by omega)
    refine ⟨.inr (mExp (X.1.1.2 u).1), ?_, fun S' hc => ask_ok hc ?_⟩
    · unfold f_X5_exploresNext
      rw [ua_t h u2 u1, gd_i hU.1.1, c_expl hU (h.1.2.1.1.2 u (by omega)), gb_S]
    · unfold f_X6_exploresNext
      rw [gd_i hc.m.1, glt_S, n_umb hc.z.m hc.z.2.2.1, hu, gb_S, if_neg (by decide), q_exp hc.z.m u2 (by omega) (hc.z.2.2.1.2 u u1), gb_S]
-- right habits: the same sixteen, in another order
theorem sum16 (f : Nat → Int32) : dS (fun wd => dS (fun rn => f (4 * rn + wd)) 4 4) 4 4 = dS f 16 16 := by
  show (f 0 + (f 4 + (f 8 + (f 12 + 0)))) + ((f 1 + (f 5 + (f 9 + (f 13 + 0)))) + ((f 2 + (f 6 + (f 10 + (f 14 + 0)))) + ((f 3 + (f 7 + (f 11 + (f 15 + 0)))) + 0))) = f 0 + (f 1 + (f 2 + (f 3 + (f 4 + (f 5 + (f 6 + (f 7 + (f 8 + (f 9 + (f 10 + (f 11 + (f 12 + (f 13 + (f 14 + (f 15 + 0)))))))))))))))
  simp only [Int32.add_zero]
  ac_rfl
theorem mRA_sum (M : mB) (u : Nat) : dS (fun wd => mRA M u wd) 4 4 = mRH M u := by
  unfold mRH
  rw [← sum16]
  refine dS_cong 4 (Nat.le_refl _) (fun wd hw => ?_)
  unfold mRA
  refine dS_cong 4 (Nat.le_refl _) (fun rn hr => ?_)
  rw [show (4 * rn + wd) / 4 = rn by omega, show (4 * rn + wd) % 4 = wd by omega]
theorem c_habits_L (h : wR G S T A N X) {u : Nat} (hu : u < mc X.1.1) {a : Int32} : ∀ (n k : Nat) (s : Int32), k ≤ 4 → 4 - k < n → f_X5_rightHabits_L14 G (ax A) a S n ((aB A 0).2.2 u).1 s (nI k) = some (.inr (s + dS (fun wd => mRA X.1.1 u wd) 4 (4 - k))) := by
  have hb := h.1.1.2.1.1 0 (by decide)
  intro n
  induction n with
  | zero => intro k s _ hn; omega
  | succ n ih =>
    intro k s hk hn
    rw [f_X5_rightHabits_L14, show (4 : Int32) = nI 4 from rfl]
    by_cases c : 4 ≤ k
    · rw [if_pos (nI_le c (by omega)), dS_end _ c, Int32.add_zero]
    · rw [if_neg (nI_ge (by omega) (by decide)), gd_i h.1.1.1.1, h.1.1.1.2.1, gb_S, gd_i hb.1.1, c_right hb h.1.2.1.1 h.2.1 rfl hu (by omega), gb_S, glt_S, glt_S, nI_1, ih (k + 1) _ (by omega) (by omega), dS_at _ (show k < 4 by omega), Int32.add_assoc]
theorem x_habits (h : wR G S T A N X) (a : Int32) : tAsk G S T A X [eIO] (f_X5_rightHabits G (ax A) a S) (f_X6_rightHabits G (am A) a) := by
  have h6 := h.2.1.1.2
  cases hu : mUmb X.1.1 a with
  | false =>
    refine ⟨.inl eIO, ua_f h hu, fun S' hc => ask_no hc (i := 0) (b := 0) ?_ rfl⟩
    unfold f_X6_rightHabits
    rw [gd_i hc.m.1, glt_S, n_umb hc.z.m hc.z.2.2.1, hu, gb_S, if_pos (show gz false = 0 from rfl), fails_eq hc.m.1, gb2_S]
    rfl
  | true =>
    obtain ⟨u, u1, u2, u3⟩ := mUmb_t h.2.1 hu
    refine ⟨.inr (mRH X.1.1 u), ?_, fun S' hc => ask_ok hc ?_⟩
    · unfold f_X5_rightHabits
      have := c_habits_L h u1 (a := a) gN 0 0 (by omega) (by rw [gN_e]; omega)
      rw [Int32.zero_add, mRA_sum] at this
      rw [ua_t h u2 u1]
      exact this
    · unfold f_X6_rightHabits
      have e := q_habits hc.z.m hc.z.2.2.1 h.2.1 u1
      rw [srow_eta] at e
      rw [gd_i hc.m.1, glt_S, n_umb hc.z.m hc.z.2.2.1, hu, gb_S, if_neg (by decide), u2, e]
theorem x_known (h : wR G S T A N X) (a : Int32) : tAsk G S T A X [eIO] (f_X5_knownSituations G (ax A) a S) (f_X6_knownSituations G (am A) a) := by
  have h6 := h.2.1.1.2
  cases hu : mUmb X.1.1 a with
  | false =>
    refine ⟨.inl eIO, ua_f h hu, fun S' hc => ask_no hc (i := 0) (b := 0) ?_ rfl⟩
    unfold f_X6_knownSituations
    rw [gd_i hc.m.1, glt_S, n_umb hc.z.m hc.z.2.2.1, hu, gb_S, if_pos (show gz false = 0 from rfl), fails_eq hc.m.1, gb2_S]
    rfl
  | true =>
    obtain ⟨u, u1, u2, u3⟩ := mUmb_t h.2.1 hu
    have hU := (h.1.1.2.1.1 0 (by decide)).u (i := u) (by omega)
    refine ⟨.inr (mKn (X.1.1.2 u).2), ?_, fun S' hc => ask_ok hc ?_⟩
    · unfold f_X5_knownSituations
      rw [ua_t h u2 u1, gd_i hU.1.1, c_known hU (h.1.2.1.1.2 u (by omega)) (h.2.1.2.2.2.1 u u1), gb_S]
    · unfold f_X6_knownSituations
      have e := q_known hc.z.m hc.z.2.2.1 h.2.1 u1
      rw [srow_eta] at e
      rw [gd_i hc.m.1, glt_S, n_umb hc.z.m hc.z.2.2.1, hu, gb_S, if_neg (by decide), u2, e]
theorem dF_lt {p : Nat → Bool} {n : Nat} : ∀ d i, d ≤ n → dF p n d = some i → i < n := by
  intro d
  induction d with
  | zero => intro i _ h; cases h
  | succ d ih =>
    intro i hd h
    have h : (if p (n - (d + 1)) = true then some (n - (d + 1)) else dF p n d) = some i := h
    split at h
    · cases h; omega
    · exact ih i (by omega) h
theorem nI_ne1 {i : Nat} (h : i < 2 ^ 31) : ¬ nI i = -1 := fun q => by
  have := congrArg Int32.toInt q
  rw [nI_toInt h, show (-1 : Int32).toInt = -1 from rfl] at this
  omega
/-- the ranked situation, on both sides -/
theorem x_sr (h : wR G S T A N X) (a b : Int32) : (mUmb X.1.1 a = false ∧ f_X5_rankedSituation G (ax A) a b S = some (.inl eIO) ∧ ∀ S', wC G S' T A X X → f_X6_situationAt G (am A) a b S' = some (0, sI (sI S' 30 (am A) 0) 30 (am A) 1)) ∨ (f_X5_rankedSituation G (ax A) a b S = some (.inl eNS) ∧ ∀ S', wC G S' T A X X → f_X6_situationAt G (am A) a b S' = some (0, sI (sI S' 30 (am A) 0) 30 (am A) 2)) ∨ ∃ i, i < 16 ∧ f_X5_rankedSituation G (ax A) a b S = some (.inr (nI i)) ∧ ∀ S', wC G S' T A X X → f_X6_situationAt G (am A) a b S' = some (nI i, sI S' 30 (am A) 0) := by
  have h6 := h.2.1.1.2
  cases hu : mUmb X.1.1 a with
  | false =>
    refine Or.inl ⟨rfl, ua_f h hu, fun S' hc => ?_⟩
    unfold f_X6_situationAt
    rw [gd_i hc.m.1, glt_S, n_umb hc.z.m hc.z.2.2.1, hu, gb_S, if_pos (show gz false = 0 from rfl), fails_eq hc.m.1, gb2_S]
  | true =>
    obtain ⟨u, u1, u2, u3⟩ := mUmb_t h.2.1 hu
    have hU := (h.1.1.2.1.1 0 (by decide)).u (i := u) (by omega)
    have five : f_X5_rankedSituation G (ax A) a b S = if mOr (mSR (X.1.1.2 u).2 b) = -1 then some (.inl eNS) else some (.inr (mOr (mSR (X.1.1.2 u).2 b))) := by
      unfold f_X5_rankedSituation
      rw [ua_t h u2 u1, gd_i hU.1.1, c_sr hU (h.1.2.1.1.2 u (by omega)) (h.2.1.2.2.2.1 u u1), gb_S]
    have six : ∀ S', wC G S' T A X X → f_X6_situationAt G (am A) a b S' = match mSR (X.1.1.2 u).2 b with | some i => some (nI i, sI S' 30 (am A) 0) | none => some (0, sI (sI S' 30 (am A) 0) 30 (am A) 2) := by
      intro S' hc
      have e := q_sr_L hc.z.m hc.z.2.2.1 h.2.1 u1 b gN 0 (by omega) (by rw [gN_e]; omega)
      rw [srow_eta] at e
      unfold f_X6_situationAt
      rw [gd_i hc.m.1, glt_S, n_umb hc.z.m hc.z.2.2.1, hu, gb_S, if_neg (by decide), u2]
      exact e
    cases hq : mSR (X.1.1.2 u).2 b with
    | none =>
      rw [hq] at five six
      exact Or.inr (Or.inl ⟨five.trans (if_pos rfl), six⟩)
    | some i =>
      rw [hq] at five six
      have hi := dF_lt 16 i (Nat.le_refl _) hq
      exact Or.inr (Or.inr ⟨i, hi, five.trans (if_neg (nI_ne1 (by omega))), six⟩)
theorem x_sitRain (h : wR G S T A N X) (a b : Int32) : tAsk G S T A X csIN (f_X5_situationRain G (ax A) a b S) (f_X6_situationRain G (am A) a b) := by
  rcases x_sr h a b with ⟨-, e5, e6⟩ | ⟨e5, e6⟩ | ⟨i, hi, e5, e6⟩
  · refine ⟨.inl eIO, by unfold f_X5_situationRain; rw [gd_i h.1.1.1.1, e5, gbx1_L], fun S' hc => ask_no hc (i := 0) (b := (0 : Int32) / 4) ?_ rfl⟩
    unfold f_X6_situationRain
    rw [gd_i hc.m.1, e6 S' hc, gb2_S]
    rfl
  · refine ⟨.inl eNS, by unfold f_X5_situationRain; rw [gd_i h.1.1.1.1, e5, gbx1_L], fun S' hc => ask_no hc (i := 1) (b := (0 : Int32) / 4) ?_ rfl⟩
    unfold f_X6_situationRain
    rw [gd_i hc.m.1, e6 S' hc, gb2_S]
    rfl
  · refine ⟨.inr (nI i / 4), by unfold f_X5_situationRain f_X5_rainOfSituation; rw [gd_i h.1.1.1.1, e5, gbx1_R, gb_S], fun S' hc => ask_ok hc ?_⟩
    unfold f_X6_situationRain
    rw [gd_i hc.m.1, e6 S' hc, gb2_S]
theorem x_sitWind (h : wR G S T A N X) (a b : Int32) : tAsk G S T A X csIN (f_X5_situationWind G (ax A) a b S) (f_X6_situationWind G (am A) a b) := by
  rcases x_sr h a b with ⟨-, e5, e6⟩ | ⟨e5, e6⟩ | ⟨i, hi, e5, e6⟩
  · refine ⟨.inl eIO, by unfold f_X5_situationWind; rw [gd_i h.1.1.1.1, e5, gbx1_L], fun S' hc => ask_no hc (i := 0) (b := (0 : Int32) - 0 / 4 * 4) ?_ rfl⟩
    unfold f_X6_situationWind
    rw [gd_i hc.m.1, e6 S' hc, gb2_S]
    rfl
  · refine ⟨.inl eNS, by unfold f_X5_situationWind; rw [gd_i h.1.1.1.1, e5, gbx1_L], fun S' hc => ask_no hc (i := 1) (b := (0 : Int32) - 0 / 4 * 4) ?_ rfl⟩
    unfold f_X6_situationWind
    rw [gd_i hc.m.1, e6 S' hc, gb2_S]
    rfl
  · refine ⟨.inr (nI i - nI i / 4 * 4), by unfold f_X5_situationWind f_X5_windOfSituation; rw [gd_i h.1.1.1.1, e5, gbx1_R, gb_S], fun S' hc => ask_ok hc ?_⟩
    unfold f_X6_situationWind
    rw [gd_i hc.m.1, e6 S' hc, gb2_S]
-- exams, ranks
theorem x_hasExam (h : wR G S T A N X) (a b : Int32) : tAsk G S T A X [eIO, eIA] (f_X5_hasExam G (ax A) a b S) (f_X6_hasExam G (am A) a b) := by
  have h6 := h.2.1.1.2
  have hb := h.1.1.2.1.1 0 (by decide)
  have bad : ∀ S' e, wC G S' T A X X → e ≠ 0 → mFor X.1.1 a (mLev b) = e → f_X6_hasExam G (am A) a b S' = some (false, sI (sI S' 30 (am A) 0) 30 (am A) (nI e)) := by
    intro S' e hc he hf
    have h3 : e < 3 := hf ▸ mFor_lt
    unfold f_X6_hasExam
    rw [gd_i hc.m.1, glt_S, n_one hc.z.m hc.z.2.2.1, hf, gb_S, if_neg (nI_ne he h3), fails_eq hc.m.1, gb2_S, if_pos (by decide)]
  cases hu : mUmb X.1.1 a with
  | false => exact ⟨.inl eIO, ua_f h hu, fun S' hc => ask_no hc (i := 0) (b := false) (bad S' 1 hc (by decide) (by unfold mFor; rw [hu]; rfl)) rfl⟩
  | true =>
    obtain ⟨u, u1, u2, u3⟩ := mUmb_t h.2.1 hu
    have hU := hb.u (i := u) (by omega)
    cases hs : mLev b with
    | false =>
      refine ⟨.inl eIA, ?_, fun S' hc => ask_no hc (i := 1) (b := false) (bad S' 2 hc (by decide) (by unfold mFor; rw [hu, hs]; rfl)) rfl⟩
      unfold f_X5_hasExam
      rw [ua_t h u2 u1, c_lev, gb_S, hs]
      rfl
    | true =>
      obtain ⟨w, w1, w2, -⟩ := mLev_t hs
      refine ⟨.inr (mHas ((X.1.1.2 u).1 7) w), ?_, fun S' hc => ask_ok hc ?_⟩
      · unfold f_X5_hasExam
        rw [ua_t h u2 u1, c_lev, gb_S, hs, if_neg (by decide), gd_i hU.1.1, c_has hU (h.1.2.1.1.2 u (by omega)) w2, gb_S]
      · have e := q_has hc.z.m (hc.z.2.2.1.2 u u1) (h.2.1.2.2.2.1 u u1) u2 w2 (by omega) w1
        rw [srow_eta] at e
        unfold f_X6_hasExam
        rw [gd_i hc.m.1, glt_S, n_one hc.z.m hc.z.2.2.1, mFor_ok hu hs, gb_S, if_pos (by decide), e, gb_S]
theorem x_grad (h : wR G S T A N X) (a : Int32) : tAsk G S T A X [eIO] (f_X5_isGraduate G (ax A) a S) (f_X6_isGraduate G (am A) a) := by
  have h6 := h.2.1.1.2
  cases hu : mUmb X.1.1 a with
  | false =>
    refine ⟨.inl eIO, ua_f h hu, fun S' hc => ask_no hc (i := 0) (b := false) ?_ rfl⟩
    unfold f_X6_isGraduate
    rw [gd_i hc.m.1, glt_S, n_umb hc.z.m hc.z.2.2.1, hu, gb_S, if_pos (show gz false = 0 from rfl), fails_eq hc.m.1, gb2_S, if_pos (by decide)]
    rfl
  | true =>
    obtain ⟨u, u1, u2, u3⟩ := mUmb_t h.2.1 hu
    have hU := (h.1.1.2.1.1 0 (by decide)).u (i := u) (by omega)
    have e7 : gI S 17 ((aB A 0).2.2 u).1 = (X.1.1.2 u).1 7 := (h.1.2.1.1.2 u (by omega)).1 7 (by decide)
    refine ⟨.inr (decide ((X.1.1.2 u).1 7 = 15)), ?_, fun S' hc => ask_ok hc ?_⟩
    · unfold f_X5_isGraduate
      rw [ua_t h u2 u1, gd_i hU.1.1, e7]
      by_cases q : (X.1.1.2 u).1 7 = 15
      · rw [if_pos q, decide_eq_true q]
      · rw [if_neg q, decide_eq_false q]
    · unfold f_X6_isGraduate
      rw [gd_i hc.m.1, glt_S, n_umb hc.z.m hc.z.2.2.1, hu, gb_S, if_neg (by decide), a_of hc.z u1 h6 u2 (show (7 : Int32) = nI 7 from rfl) (by decide), gb_S]
      by_cases q : (X.1.1.2 u).1 7 = 15
      · rw [if_pos q, decide_eq_true q]
      · rw [if_neg q, decide_eq_false q]
theorem x_rank (h : wR G S T A N X) (hN : N + 40000 ≤ 2 ^ 30) (a : Int32) : tAsk G S T A X [eNS] (f_X5_umbrellaByStars G (ax A) a S) (f_X6_umbrellaByStars G (am A) a) := by
  have h6 := h.2.1.1.2
  have hb := h.1.1.2.1.1 0 (by decide)
  have five : f_X5_umbrellaByStars G (ax A) a S = if mOr (mByRank X.1.1 a) = -1 then some (.inl eNS) else some (.inr (mOr (mByRank X.1.1 a))) := by
    unfold f_X5_umbrellaByStars
    rw [gd_i h.1.1.1.1, h.1.1.1.2.1, gb_S, gd_i hb.1.1, c_byRank hb h.1.2.1.1 h.2.1, gb_S]
  have six : ∀ S', wC G S' T A X X → f_X6_umbrellaByStars G (am A) a S' = match mByRank X.1.1 a with | some i => some (nI i, sI S' 30 (am A) 0) | none => some (0, sI (sI S' 30 (am A) 0) 30 (am A) 1) := by
    intro S' hc
    have e := q_rank_L hc.z.m hc.z.2.2.1 h.2.1 (by omega) a gN 0 (Nat.zero_le _) (by rw [gN_e]; omega)
    rw [srow_eta] at e
    unfold f_X6_umbrellaByStars
    rw [gd_i hc.m.1, glt_S]
    exact e
  cases hq : mByRank X.1.1 a with
  | none =>
    rw [hq] at five six
    exact ⟨.inl eNS, five.trans (if_pos rfl), fun S' hc => ask_no hc (i := 0) (b := 0) (six S' hc) rfl⟩
  | some i =>
    rw [hq] at five six
    have hi := dF_lt (mc X.1.1) i (Nat.le_refl _) hq
    exact ⟨.inr (nI i), five.trans (if_neg (nI_ne1 (by omega))), fun S' hc => ask_ok hc (six S' hc)⟩
-- positions
theorem pos_ne {e : Int32} (h : 0 ≤ e) : ¬ e = -1 := fun q => by
  rw [q] at h
  exact absurd h (by decide)
theorem x_errPos (h : wR G S T A N X) : tAsk G S T A X [eNS] (f_X5_errorPosition G (ax A) S) (f_X6_errorPosition G (am A)) := by
  have e5 : gI S 22 (ax A) = X.2.1.2.1 := h.1.2.1.2.2.1.2.2.1
  rcases h.2.2.2.2.1 with q | q
  · refine ⟨.inl eNS, by unfold f_X5_errorPosition; rw [gd_i h.1.1.1.1, e5, if_pos q], fun S' hc => ask_no hc (i := 0) (b := 0) ?_ rfl⟩
    have e6 : gI (sI S' 30 (am A) 0) 37 (am A) = X.2.1.2.1 := hc.z.2.2.2.2.1.2.2.1
    unfold f_X6_errorPosition
    rw [gd_i hc.m.1, glt_S, e6, if_neg (by rw [q]; decide), fails_eq hc.m.1, gb2_S]
    rfl
  · refine ⟨.inr X.2.1.2.1, by unfold f_X5_errorPosition; rw [gd_i h.1.1.1.1, e5, if_neg (pos_ne q)], fun S' hc => ask_ok hc ?_⟩
    have e6 : gI (sI S' 30 (am A) 0) 37 (am A) = X.2.1.2.1 := hc.z.2.2.2.2.1.2.2.1
    unfold f_X6_errorPosition
    rw [gd_i hc.m.1, glt_S, e6, if_pos q]
theorem x_failed (h : wR G S T A N X) : tAsk G S T A X [eNS] (f_X5_failedCommand G (ax A) S) (f_X6_failedCommand G (am A)) := by
  have e5 : gI S 23 (ax A) = X.2.1.2.2 := h.1.2.1.2.2.1.2.2.2
  rcases h.2.2.2.2.2.1 with q | q
  · refine ⟨.inl eNS, by unfold f_X5_failedCommand; rw [gd_i h.1.1.1.1, e5, if_pos q], fun S' hc => ask_no hc (i := 0) (b := 0) ?_ rfl⟩
    have e6 : gI (sI S' 30 (am A) 0) 38 (am A) = X.2.1.2.2 := hc.z.2.2.2.2.1.2.2.2.1
    unfold f_X6_failedCommand
    rw [gd_i hc.m.1, glt_S, e6, if_neg (by rw [q]; decide), fails_eq hc.m.1, gb2_S]
    rfl
  · refine ⟨.inr X.2.1.2.2, by unfold f_X5_failedCommand; rw [gd_i h.1.1.1.1, e5, if_neg (pos_ne q)], fun S' hc => ask_ok hc ?_⟩
    have e6 : gI (sI S' 30 (am A) 0) 38 (am A) = X.2.1.2.2 := hc.z.2.2.2.2.1.2.2.2.1
    unfold f_X6_failedCommand
    rw [gd_i hc.m.1, glt_S, e6, if_pos q]
end DC
