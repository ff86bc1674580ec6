/-! queries: both sides alike -/
def flOk : Prop := (∀ a b : Int32, b ≠ 0 → vf_n64 (FP.ddiv (FP.i2d a) (FP.i2d b))) ∧ (∀ a b : Int32, b ≠ 0 → vf_n32 (FP.fdiv (FP.i2f a) (FP.i2f b))) ∧ (∀ x : UInt32, vf_n32 x → vf_n64 (FP.f2d x)) ∧ ∀ x : UInt64, vf_n64 x → FP.dcmp x x = some .eq
abbrev eIO : String := "java/lang/IndexOutOfBoundsException"
abbrev eIA : String := "java/lang/IllegalArgumentException"
abbrev eIS : String := "java/lang/IllegalStateException"
abbrev eNS : String := "java/util/NoSuchElementException"
abbrev eAR : String := "java/lang/ArithmeticException"
/-- a query of the class, and the reference's -/
def tAsk {α : Type} (G : gG) (S : gS) (T : gT) (A : aW) (X : mX) (cs : List String) (F5 : Option (String ⊕ α)) (F6 : gS → Option (α × gS)) : Prop :=
  ∃ res : String ⊕ α, F5 = some res ∧ ∀ S', wC G S' T A X X → ∃ (b : α) (S2 : gS), F6 S' = some (b, S2) ∧ wC G S2 T A X X ∧ oK A S' S2 ∧ tOut cs res b (gI S2 30 (am A))
section DB
variable {G : gG} {S : gS} {T : gT} {A : aW} {N : Nat} {X : mX} {α : Type}
theorem tAsk.step {cs : List String} {F5 : Option (String ⊕ α)} {F6 : gS → Option (α × gS)} (h : tAsk G S T A X cs F5 F6) (hR : wR G S T A N X) : tStep G T A N X cs (fun res S1 T1 => F5 = some res ∧ S1 = S ∧ T1 = T) (fun S' b S2 => F6 S' = some (b, S2)) := by
  obtain ⟨res, h1, h2⟩ := h
  exact ⟨res, S, T, X, ⟨h1, rfl, rfl⟩, hR.2.mono (by omega), hR.1, h2⟩
theorem wC.z {S' : gS} (h : wC G S' T A X X) : wC G (sI S' 30 (am A) 0) T A X X := h.I rfl (Or.inl rfl)
theorem wC.f {S' : gS} {v : Int32} (h : wC G S' T A X X) : wC G (sI S' 30 (am A) v) T A X X := h.I rfl (Or.inl rfl)
/-- the reference refuses, the class throws alike -/
theorem ask_no {cs : List String} {E : String} {F6 : Option (α × gS)} {S' : gS} {b : α} {i : Nat} (hc : wC G S' T A X X) (h6 : F6 = some (b, sI (sI S' 30 (am A) 0) 30 (am A) (nI (i + 1)))) (hE : cs[i]? = some E) : ∃ (b : α) (S2 : gS), F6 = some (b, S2) ∧ wC G S2 T A X X ∧ oK A S' S2 ∧ tOut cs (.inl E) b (gI S2 30 (am A)) :=
  ⟨b, _, h6, hc.z.f, oK.trans oK.I oK.I, i, hE, th_at⟩
theorem ask_ok {cs : List String} {F6 : Option (α × gS)} {S' : gS} {v : α} (hc : wC G S' T A X X) (h6 : F6 = some (v, sI S' 30 (am A) 0)) : ∃ (b : α) (S2 : gS), F6 = some (b, S2) ∧ wC G S2 T A X X ∧ oK A S' S2 ∧ tOut cs (.inr v) b (gI S2 30 (am A)) :=
  ⟨v, _, h6, hc.z, oK.I, th_at, rfl⟩
theorem ua_t (h : wR G S T A N X) {u : Nat} {a : Int32} (ha : a = nI u) (hu : u < mc X.1.1) {F : Nat → Option (String ⊕ α)} : (gd (gis G 2 (ax A)) <| gb (gP S 5 (ax A)) fun b => gd (gis G 0 b) <| gbx1 (f_X1_umbrellaAt G b a S) (fun E => some (.inl E)) fun r => F r) = F ((aB A 0).2.2 u).1 := by
  have hb := h.1.1.2.1.1 0 (by decide)
  rw [gd_i h.1.1.1.1, h.1.1.1.2.1, gb_S, gd_i hb.1.1, c_at hb h.1.2.1.1 h.2.1 ha hu, gbx1_R]
theorem ua_f (h : wR G S T A N X) {a : Int32} (ha : mUmb X.1.1 a = false) {F : Nat → Option (String ⊕ α)} : (gd (gis G 2 (ax A)) <| gb (gP S 5 (ax A)) fun b => gd (gis G 0 b) <| gbx1 (f_X1_umbrellaAt G b a S) (fun E => some (.inl E)) fun r => F r) = some (.inl eIO) := by
  have hb := h.1.1.2.1.1 0 (by decide)
  rw [gd_i h.1.1.1.1, h.1.1.1.2.1, gb_S, gd_i hb.1.1, c_uatE hb (h.1.2.1.1.cnt h.2.1) (mUmb_f h.2.1 ha), gbx1_L]
/-- the reference's numbers, from any heap of that world -/
theorem r_row {S' : gS} (hc : wC G S' T A X X) : S' = srow S' (ar A 0) (gr S' (ar A 0)) := (srow_eta _ _).symm
theorem a_of {S' : gS} (hc : wC G S' T A X X) {u k : Nat} {a b : Int32} (hu : u < mc X.1.1) (h6 : mc X.1.1 ≤ 6) (ha : a = nI u) (hb : b = nI k) (hk : k < 8) : f_X6_of G (am A) a b S' = some ((X.1.1.2 u).1 k) := by
  rw [q_of hc.m ha hb (by omega), (hc.2.2.1.2 u hu).1 k hk]
-- one umbrella's number
theorem x_asksU (h : wR G S T A N X) (k : Nat) (hk : k < 8) (a kk : Int32) (hkk : kk = nI k) {F6 : gS → Option (Int32 × gS)} (h6 : ∀ S', F6 S' = (gd (gis G 3 (am A)) <| gb2 (f_X6_asksUmbrella G (am A) a kk S') fun r S => some (r, S))) : tAsk G S T A X [eIO] (gd (gis G 2 (ax A)) <| gb (gP S 5 (ax A)) fun b => gd (gis G 0 b) <| gbx1 (f_X1_umbrellaAt G b a S) (fun E => some (.inl E)) fun r => gd (gis G 1 r) <| some (.inr (gI S (10 + k) r))) F6 := by
  have h6' := h.2.1.1.2
  cases hu : mUmb X.1.1 a with
  | false =>
    refine ⟨_, ua_f h hu, fun S' hc => ask_no hc (i := 0) (b := 0) ?_ rfl⟩
    rw [h6, gb2_id, gd_i hc.m.1]
    unfold f_X6_asksUmbrella
    rw [gd_i hc.m.1, glt_S, n_umb hc.z.m hc.z.2.2.1, hu, gb_S, if_pos (show gz false = 0 from rfl), fails_eq hc.m.1, gb2_S]
    rfl
  | true =>
    obtain ⟨u, u1, u2, u3⟩ := mUmb_t h.2.1 hu
    refine ⟨.inr ((X.1.1.2 u).1 k), ?_, fun S' hc => ask_ok hc ?_⟩
    · rw [ua_t h u2 u1, gd_i ((h.1.1.2.1.1 0 (by decide)).u (i := u) (by omega)).1.1, (h.1.2.1.1.2 u (by omega)).1 k hk]
    · rw [h6, gb2_id, gd_i hc.m.1]
      unfold f_X6_asksUmbrella
      rw [gd_i hc.m.1, glt_S, n_umb hc.z.m hc.z.2.2.1, hu, gb_S, if_neg (by decide), a_of hc.z u1 h6' u2 hkk hk, gb_S]
theorem x_memory (h : wR G S T A N X) (a : Int32) : tAsk G S T A X [eIO] (f_X5_memory G (ax A) a S) (f_X6_memory G (am A) a) := x_asksU h 0 (by decide) a 0 rfl (fun _ => rfl)
theorem x_periodQ (h : wR G S T A N X) (a : Int32) : tAsk G S T A X [eIO] (f_X5_period G (ax A) a S) (f_X6_period G (am A) a) := x_asksU h 1 (by decide) a 1 rfl (fun _ => rfl)
theorem x_trials (h : wR G S T A N X) (a : Int32) : tAsk G S T A X [eIO] (f_X5_trials G (ax A) a S) (f_X6_trials G (am A) a) := x_asksU h 2 (by decide) a 2 rfl (fun _ => rfl)
theorem x_rememb (h : wR G S T A N X) (a : Int32) : tAsk G S T A X [eIO] (f_X5_rememberedTrials G (ax A) a S) (f_X6_rememberedTrials G (am A) a) := x_asksU h 3 (by decide) a 3 rfl (fun _ => rfl)
theorem x_total (h : wR G S T A N X) (a : Int32) : tAsk G S T A X [eIO] (f_X5_totalReward G (ax A) a S) (f_X6_totalReward G (am A) a) := x_asksU h 4 (by decide) a 4 rfl (fun _ => rfl)
theorem x_termR (h : wR G S T A N X) (a : Int32) : tAsk G S T A X [eIO] (f_X5_termReward G (ax A) a S) (f_X6_termReward G (am A) a) := x_asksU h 5 (by decide) a 5 rfl (fun _ => rfl)
theorem x_stars (h : wR G S T A N X) (a : Int32) : tAsk G S T A X [eIO] (f_X5_stars G (ax A) a S) (f_X6_stars G (am A) a) := x_asksU h 6 (by decide) a 6 rfl (fun _ => rfl)
-- numbers of the school
def tNum {α : Type} (G : gG) (S : gS) (T : gT) (A : aW) (X : mX) (F5 : Option α) (F6 : gS → Option (α × gS)) : Prop :=
  ∃ v : α, F5 = some v ∧ ∀ S', wC G S' T A X X → F6 S' = some (v, sI S' 30 (am A) 0)
theorem x_asks (h : wR G S T A N X) {k j : Nat} (hk : k < 8) (kk : Int32) (hkk : kk = nI k) (hj : gI S j (aB A 0).1 = X.1.1.1 k) {F6 : gS → Option (Int32 × gS)} (h6 : ∀ S', F6 S' = (gd (gis G 3 (am A)) <| gb2 (f_X6_asks G (am A) kk S') fun r S => some (r, S))) : tNum G S T A X (gd (gis G 2 (ax A)) <| gb (gP S 5 (ax A)) fun b => gd (gis G 0 b) <| some (gI S j b)) F6 := by
  have hb := h.1.1.2.1.1 0 (by decide)
  refine ⟨X.1.1.1 k, by rw [gd_i h.1.1.1.1, h.1.1.1.2.1, gb_S, gd_i hb.1.1, hj], fun S' hc => ?_⟩
  obtain ⟨h1, h2, h3, h4⟩ := w_ok hc.z.m hkk (show k < 176 by omega)
  rw [h6, gb2_id, gd_i hc.m.1]
  unfold f_X6_asks
  rw [gd_i hc.m.1, glt_S, h1, gb_S, gd_i h2, gd_i h3, h4, hc.z.2.2.1.1 k hk]
theorem x_count (h : wR G S T A N X) : tNum G S T A X (f_X5_umbrellaCount G (ax A) S) (f_X6_umbrellaCount G (am A)) := x_asks h (k := 0) (by decide) 0 rfl h.1.2.1.1.1.1 (fun _ => rfl)
theorem x_wetQ (h : wR G S T A N X) : tNum G S T A X (f_X5_wetPenalty G (ax A) S) (f_X6_wetPenalty G (am A)) := x_asks h (k := 1) (by decide) 1 rfl h.1.2.1.1.1.2.1 (fun _ => rfl)
theorem x_galeQ (h : wR G S T A N X) : tNum G S T A X (f_X5_galePenalty G (ax A) S) (f_X6_galePenalty G (am A)) := x_asks h (k := 2) (by decide) 2 rfl h.1.2.1.1.1.2.2.1 (fun _ => rfl)
theorem x_termQ (h : wR G S T A N X) : tNum G S T A X (f_X5_term G (ax A) S) (f_X6_term G (am A)) := x_asks h (k := 3) (by decide) 3 rfl h.1.2.1.1.1.2.2.2.1 (fun _ => rfl)
theorem x_schoolR (h : wR G S T A N X) : tNum G S T A X (f_X5_schoolReward G (ax A) S) (f_X6_schoolReward G (am A)) := by
  have hb := h.1.1.2.1.1 0 (by decide)
  refine ⟨mSum X.1.1 4, ?_, fun S' hc => ?_⟩
  · unfold f_X5_schoolReward
    rw [gd_i h.1.1.1.1, h.1.1.1.2.1, gb_S, gd_i hb.1.1, c_total hb h.1.2.1.1 h.2.1, gb_S]
  · unfold f_X6_schoolReward
    have e := q_total hc.z.m hc.z.2.2.1 h.2.1
    rw [srow_eta] at e
    rw [gd_i hc.m.1, glt_S, e, gb_S]
theorem x_actR (h : wR G S T A N X) : tNum G S T A X (f_X5_schoolRewardByActions G (ax A) S) (f_X6_schoolRewardByActions G (am A)) := by
  have hb := h.1.1.2.1.1 0 (by decide)
  refine ⟨X.1.1.1 4 + X.1.1.1 5, ?_, fun S' hc => ?_⟩
  · unfold f_X5_schoolRewardByActions
    rw [gd_i h.1.1.1.1, h.1.1.1.2.1, gb_S, gd_i hb.1.1, c_actions hb h.1.2.1.1, gb_S]
  · obtain ⟨h1, h2, h3, h4⟩ := w_ok hc.z.m (k := 4) (n := 4) rfl (by decide)
    obtain ⟨k1, k2, k3, k4⟩ := w_ok hc.z.m (k := 5) (n := 5) rfl (by decide)
    unfold f_X6_schoolRewardByActions
    rw [gd_i hc.m.1, glt_S, h1, gb_S, gd_i h2, gd_i h3, gb_S, gd_i k2, gd_i k3, h4, k4, hc.z.2.2.1.1 4 (by decide), hc.z.2.2.1.1 5 (by decide)]
theorem x_consist (h : wR G S T A N X) : tNum G S T A X (f_X5_isConsistent G (ax A) S) (f_X6_isConsistent G (am A)) := by
  have hb := h.1.1.2.1.1 0 (by decide)
  refine ⟨mOkay X.1.1, ?_, fun S' hc => ?_⟩
  · unfold f_X5_isConsistent
    rw [gd_i h.1.1.1.1, h.1.1.1.2.1, gb_S, gd_i hb.1.1, c_agree hb h.1.2.1.1 h.2.1, gb_S]
  · unfold f_X6_isConsistent
    have e := q_okay hc.z.m hc.z.2.2.1 h.2.1
    rw [srow_eta] at e
    rw [gd_i hc.m.1, glt_S, e]
-- means and shares
theorem x_meanS (hf : flOk) (h : wR G S T A N X) : tAsk G S T A X [eAR] (f_X5_meanSchoolReward G (ax A) S) (f_X6_meanSchoolReward G (am A)) := by
  have hb := h.1.1.2.1.1 0 (by decide)
  by_cases q : X.1.1.1 7 = 0
  · refine ⟨.inl eAR, ?_, fun S' hc => ask_no hc (i := 0) (b := FP.i2d 0) ?_ rfl⟩
    · unfold f_X5_meanSchoolReward
      rw [gd_i h.1.1.1.1, h.1.1.1.2.1, gb_S, gd_i hb.1.1, c_trials hb h.1.2.1.1 h.2.1, gb_S, if_pos q]
    · obtain ⟨h1, h2, h3, h4⟩ := w_ok hc.z.m (k := 7) (n := 7) rfl (by decide)
      unfold f_X6_meanSchoolReward
      rw [gd_i hc.m.1, glt_S, h1, gb_S, gd_i h2, gd_i h3, h4, hc.z.2.2.1.1 7 (by decide), if_pos q, fails_eq hc.m.1, gb2_S]
      rfl
  · have hn := hf.1 (mSum X.1.1 4) _ q
    refine ⟨.inr (FP.ddiv (FP.i2d (mSum X.1.1 4)) (FP.i2d (X.1.1.1 7))), ?_, fun S' hc => ask_ok hc ?_⟩
    · unfold f_X5_meanSchoolReward
      rw [gd_i h.1.1.1.1, h.1.1.1.2.1, gb_S, gd_i hb.1.1, c_trials hb h.1.2.1.1 h.2.1, gb_S, if_neg q, gb_S, gd_i hb.1.1, c_total hb h.1.2.1.1 h.2.1, gb_S, gd_i hn]
    · obtain ⟨h1, h2, h3, h4⟩ := w_ok hc.z.m (k := 7) (n := 7) rfl (by decide)
      have e := q_total hc.z.m hc.z.2.2.1 h.2.1
      rw [srow_eta] at e
      unfold f_X6_meanSchoolReward
      rw [gd_i hc.m.1, glt_S, h1, gb_S, gd_i h2, gd_i h3, h4, hc.z.2.2.1.1 7 (by decide), if_neg q, e, gb_S, gb_S, gd_i h2, gd_i h3, hc.z.2.2.1.1 7 (by decide), gd_i hn]
theorem x_share (hf : flOk) (h : wR G S T A N X) : tAsk G S T A X [eAR] (f_X5_openShare G (ax A) S) (f_X6_openShare G (am A)) := by
  have hb := h.1.1.2.1.1 0 (by decide)
  by_cases q : X.1.1.1 7 = 0
  · refine ⟨.inl eAR, ?_, fun S' hc => ask_no hc (i := 0) (b := FP.i2f 0) ?_ rfl⟩
    · unfold f_X5_openShare
      rw [gd_i h.1.1.1.1, h.1.1.1.2.1, gb_S, gd_i hb.1.1, c_trials hb h.1.2.1.1 h.2.1, gb_S, if_pos q]
    · obtain ⟨h1, h2, h3, h4⟩ := w_ok hc.z.m (k := 7) (n := 7) rfl (by decide)
      unfold f_X6_openShare
      rw [gd_i hc.m.1, glt_S, h1, gb_S, gd_i h2, gd_i h3, h4, hc.z.2.2.1.1 7 (by decide), if_pos q, fails_eq hc.m.1, gb2_S]
      rfl
  · have hn := hf.2.1 (X.1.1.1 6) _ q
    refine ⟨.inr (FP.fdiv (FP.i2f (X.1.1.1 6)) (FP.i2f (X.1.1.1 7))), ?_, fun S' hc => ask_ok hc ?_⟩
    · unfold f_X5_openShare
      rw [gd_i h.1.1.1.1, h.1.1.1.2.1, gb_S, gd_i hb.1.1, c_trials hb h.1.2.1.1 h.2.1, gb_S, if_neg q, gb_S, gd_i hb.1.1, h.1.2.1.1.1.2.2.2.2.1, gd_i hn]
    · obtain ⟨h1, h2, h3, h4⟩ := w_ok hc.z.m (k := 7) (n := 7) rfl (by decide)
      obtain ⟨-, -, k3, k4⟩ := w_ok hc.z.m (k := 6) (n := 6) rfl (by decide)
      unfold f_X6_openShare
      rw [gd_i hc.m.1, glt_S, h1, gb_S, gd_i h2, gd_i h3, h4, hc.z.2.2.1.1 7 (by decide), if_neg q, gb_S, gd_i h2, gd_i k3, gb_S, gd_i h2, gd_i h3, k4, hc.z.2.2.1.1 7 (by decide), hc.z.2.2.1.1 6 (by decide), gd_i hn]
-- a trial by its recency
theorem trial_no {a : Int32} {L : List (Nat × Nat)} (hL : L.length ≤ 20) (h : ¬ ((0 : Int32) ≤ a ∧ a ≤ nI L.length - 1)) : a < 0 ∨ nI L.length ≤ a := by
  rcases i_cases a (show L.length < 2 ^ 31 by omega) with ⟨j, hj, ej⟩ | q
  · rw [ej] at h
    exact absurd (b_in (by omega) hj) h
  · exact q
theorem trial_yes {a : Int32} {L : List (Nat × Nat)} (hL : L.length ≤ 20) (h : (0 : Int32) ≤ a ∧ a ≤ nI L.length - 1) : ∃ (j : Nat) (t : Nat × Nat), a = nI j ∧ j < L.length ∧ L[L.length - 1 - j]? = some t := by
  rcases i_cases a (show L.length < 2 ^ 31 by omega) with ⟨j, hj, ej⟩ | q
  · exact ⟨j, _, ej, hj, List.getElem?_eq_getElem (show L.length - 1 - j < L.length by omega)⟩
  · exact absurd h (b_out (by omega) q)
theorem ti_no {u : Nat} (h : wR G S T A N X) (hu : u < mc X.1.1) {b : Int32} (hb : b < 0 ∨ nI (X.1.1.2 u).2.length ≤ b) : f_X5_trialIndex G ((aB A 0).2.2 u).1 b S = some (.inl eNS) := by
  have h6 := h.2.1.1.2
  have e13 : gI S 13 ((aB A 0).2.2 u).1 = nI (X.1.1.2 u).2.length := ((h.1.2.1.1.2 u (by omega)).1 3 (by decide)).trans (h.2.1.2.2.2.1 u hu).2.2.1
  unfold f_X5_trialIndex
  by_cases q : b < 0
  · rw [if_pos q]
  · rw [if_neg q, gd_i ((h.1.1.2.1.1 0 (by decide)).u (i := u) (by omega)).1.1, e13, if_neg (Int32.not_lt.mpr (hb.resolve_left q))]
theorem ti_yes {u j : Nat} (h : wR G S T A N X) (hu : u < mc X.1.1) (hj : j < (X.1.1.2 u).2.length) : f_X5_trialIndex G ((aB A 0).2.2 u).1 (nI j) S = some (.inr (nI ((X.1.1.2 u).2.length - 1 - j))) := by
  have h6 := h.2.1.1.2
  have h20 := (h.2.1.2.2.2.1 u hu).cap
  have e13 : gI S 13 ((aB A 0).2.2 u).1 = nI (X.1.1.2 u).2.length := ((h.1.2.1.1.2 u (by omega)).1 3 (by decide)).trans (h.2.1.2.2.2.1 u hu).2.2.1
  unfold f_X5_trialIndex
  rw [if_neg (nI_pos (by omega)), gd_i ((h.1.1.2.1.1 0 (by decide)).u (i := u) (by omega)).1.1, e13, if_pos (nI_lt hj (by omega)), show (1 : Int32) = nI 1 from rfl, nI_sub (by omega), nI_sub (by omega)]
theorem ta_u {S' : gS} (h : wR G S T A N X) (hc : wC G S' T A X X) {a b : Int32} (hu : mUmb X.1.1 a = false) : f_X6_trialAt G (am A) a b S' = some (0, sI (sI S' 30 (am A) 0) 30 (am A) 1) := by
  unfold f_X6_trialAt
  rw [gd_i hc.m.1, glt_S, n_umb hc.z.m hc.z.2.2.1, hu, gb_S, if_pos (show gz false = 0 from rfl), fails_eq hc.m.1, gb2_S]
theorem ta_no {S' : gS} {u : Nat} (h : wR G S T A N X) (hc : wC G S' T A X X) {a b : Int32} (hu : mUmb X.1.1 a = true) (u1 : u < mc X.1.1) (u2 : a = nI u) (hb : ¬ ((0 : Int32) ≤ b ∧ b ≤ nI (X.1.1.2 u).2.length - 1)) : f_X6_trialAt G (am A) a b S' = some (0, sI (sI S' 30 (am A) 0) 30 (am A) 2) := by
  have h6 := h.2.1.1.2
  have e3 := (h.2.1.2.2.2.1 u u1).2.2.1
  unfold f_X6_trialAt
  rw [gd_i hc.m.1, glt_S, n_umb hc.z.m hc.z.2.2.1, hu, gb_S, if_neg (by decide), a_of hc.z u1 h6 u2 (show (3 : Int32) = nI 3 from rfl) (by decide), gb_S, q_isB, gb_S, e3, decide_eq_false hb, if_pos (show gz false = 0 from rfl), fails_eq hc.m.1, gb2_S]
theorem ta_yes {S' : gS} {u j : Nat} {t : Nat × Nat} (h : wR G S T A N X) (hc : wC G S' T A X X) {a : Int32} (hu : mUmb X.1.1 a = true) (u1 : u < mc X.1.1) (u2 : a = nI u) (hj : j < (X.1.1.2 u).2.length) (ht : (X.1.1.2 u).2[(X.1.1.2 u).2.length - 1 - j]? = some t) : f_X6_trialAt G (am A) a (nI j) S' = some (tcd t, sI S' 30 (am A) 0) := by
  have h6 := h.2.1.1.2
  have h20 := (h.2.1.2.2.2.1 u u1).cap
  have e3 := (h.2.1.2.2.2.1 u u1).2.2.1
  have ix : ((8 + nI (X.1.1.2 u).2.length) - 1) - nI j = nI (8 + ((X.1.1.2 u).2.length - 1 - j)) := by
    rw [show (8 : Int32) = nI 8 from rfl, nI_add, show (1 : Int32) = nI 1 from rfl, nI_sub (by omega), nI_sub (by omega)]
    congr 1
    omega
  unfold f_X6_trialAt
  rw [gd_i hc.m.1, glt_S, n_umb hc.z.m hc.z.2.2.1, hu, gb_S, if_neg (by decide), a_of hc.z u1 h6 u2 (show (3 : Int32) = nI 3 from rfl) (by decide), gb_S, q_isB, gb_S, e3, decide_eq_true (b_in (by omega) hj), if_neg (by decide), gb_S, ix, q_of hc.z.m u2 rfl (by omega), gb_S, q_tri (hc.z.2.2.1.2 u u1) ht]
def csIN : List String := [eIO, eNS]
theorem x_trialRain (h : wR G S T A N X) (a b : Int32) : tAsk G S T A X csIN (f_X5_trialRain G (ax A) a b S) (f_X6_trialRain G (am A) a b) := by
  have h6 := h.2.1.1.2
  have hb := h.1.1.2.1.1 0 (by decide)
  cases hu : mUmb X.1.1 a with
  | false =>
    refine ⟨.inl eIO, ua_f h hu, fun S' hc => ask_no hc (i := 0) (b := (0 : Int32) - 0 / 4 * 4) ?_ rfl⟩
    unfold f_X6_trialRain f_X6_rainOf
    rw [gd_i hc.m.1, ta_u h hc hu, gb2_S, gb_S]
    rfl
  | true =>
    obtain ⟨u, u1, u2, u3⟩ := mUmb_t h.2.1 hu
    have hU := hb.u (i := u) (by omega)
    have h20 := (h.2.1.2.2.2.1 u u1).cap
    by_cases q : (0 : Int32) ≤ b ∧ b ≤ nI (X.1.1.2 u).2.length - 1
    · obtain ⟨j, t, j1, j2, j3⟩ := trial_yes h20 q
      have ht := (h.2.1.2.2.2.1 u u1).2.2.2.1 t (List.mem_of_getElem? j3)
      subst j1
      refine ⟨.inr (nI (t.1 / 8)), ?_, fun S' hc => ask_ok hc ?_⟩
      · unfold f_X5_trialRain
        rw [ua_t h u2 u1, gd_i hU.1.1, hU.p0.1, gb_S, ti_yes h u1 j2, gbx1_R, c_val hU.p0.2.1 hU.p0.2.2 (by omega) (by decide), gb_S, ((h.1.2.1.1.2 u (by omega)).2.1 _ t j3).1, c_rain ht.1, gb_S]
      · unfold f_X6_trialRain f_X6_rainOf
        rw [gd_i hc.m.1, ta_yes h hc hu u1 u2 j2 j3, gb2_S, gb_S, tcd_m4 ht]
    · refine ⟨.inl eNS, ?_, fun S' hc => ask_no hc (i := 1) (b := (0 : Int32) - 0 / 4 * 4) ?_ rfl⟩
      · unfold f_X5_trialRain
        rw [ua_t h u2 u1, gd_i hU.1.1, hU.p0.1, gb_S, ti_no h u1 (trial_no h20 q), gbx1_L]
      · unfold f_X6_trialRain f_X6_rainOf
        rw [gd_i hc.m.1, ta_no h hc hu u1 u2 q, gb2_S, gb_S]
        rfl
theorem c_isOpen {t : Nat × Nat} (ht : t.1 < 32) : f_X5_isOpenCase (nI t.1) = some (decide (nI (t.1 % 2) = 1)) := by
  unfold f_X5_isOpenCase
  rw [show (2 : Int32) = nI 2 from rfl, nI_rem (by omega) (by decide)]
  by_cases q : nI (t.1 % 2) = 1
  · rw [if_pos q, decide_eq_true q]
  · rw [if_neg q, decide_eq_false q]
theorem x_trialOpened (h : wR G S T A N X) (a b : Int32) : tAsk G S T A X csIN (f_X5_trialOpened G (ax A) a b S) (f_X6_trialOpened G (am A) a b) := by
  have h6 := h.2.1.1.2
  have hb := h.1.1.2.1.1 0 (by decide)
  cases hu : mUmb X.1.1 a with
  | false =>
    refine ⟨.inl eIO, ua_f h hu, fun S' hc => ask_no hc (i := 0) (b := false) ?_ rfl⟩
    unfold f_X6_trialOpened
    rw [gd_i hc.m.1, ta_u h hc hu, gb2_S, if_neg (by decide)]
    rfl
  | true =>
    obtain ⟨u, u1, u2, u3⟩ := mUmb_t h.2.1 hu
    have hU := hb.u (i := u) (by omega)
    have h20 := (h.2.1.2.2.2.1 u u1).cap
    by_cases q : (0 : Int32) ≤ b ∧ b ≤ nI (X.1.1.2 u).2.length - 1
    · obtain ⟨j, t, j1, j2, j3⟩ := trial_yes h20 q
      have ht := (h.2.1.2.2.2.1 u u1).2.2.2.1 t (List.mem_of_getElem? j3)
      subst j1
      refine ⟨.inr (decide (nI (t.1 % 2) = 1)), ?_, fun S' hc => ask_ok hc ?_⟩
      · unfold f_X5_trialOpened
        rw [ua_t h u2 u1, gd_i hU.1.1, hU.p0.1, gb_S, ti_yes h u1 j2, gbx1_R, c_val hU.p0.2.1 hU.p0.2.2 (by omega) (by decide), gb_S, ((h.1.2.1.1.2 u (by omega)).2.1 _ t j3).1, c_isOpen ht.1, gb_S]
      · unfold f_X6_trialOpened
        rw [gd_i hc.m.1, ta_yes h hc hu u1 u2 j2 j3, gb2_S, tcd_op ht]
        by_cases z : nI (t.1 % 2) = 1
        · rw [if_pos z, decide_eq_true z]
        · rw [if_neg z, decide_eq_false z]
    · refine ⟨.inl eNS, ?_, fun S' hc => ask_no hc (i := 1) (b := false) ?_ rfl⟩
      · unfold f_X5_trialOpened
        rw [ua_t h u2 u1, gd_i hU.1.1, hU.p0.1, gb_S, ti_no h u1 (trial_no h20 q), gbx1_L]
      · unfold f_X6_trialOpened
        rw [gd_i hc.m.1, ta_no h hc hu u1 u2 q, gb2_S, if_neg (by decide)]
        rfl
theorem x_trialReward (h : wR G S T A N X) (a b : Int32) : tAsk G S T A X csIN (f_X5_trialReward G (ax A) a b S) (f_X6_trialReward G (am A) a b) := by
  have h6 := h.2.1.1.2
  have hb := h.1.1.2.1.1 0 (by decide)
  cases hu : mUmb X.1.1 a with
  | false =>
    refine ⟨.inl eIO, ua_f h hu, fun S' hc => ask_no hc (i := 0) (b := 0) ?_ rfl⟩
    unfold f_X6_trialReward
    rw [gd_i hc.m.1, ta_u h hc hu, gb2_S, th_at, if_neg (by decide)]
    rfl
  | true =>
    obtain ⟨u, u1, u2, u3⟩ := mUmb_t h.2.1 hu
    have hU := hb.u (i := u) (by omega)
    have h20 := (h.2.1.2.2.2.1 u u1).cap
    by_cases q : (0 : Int32) ≤ b ∧ b ≤ nI (X.1.1.2 u).2.length - 1
    · obtain ⟨j, t, j1, j2, j3⟩ := trial_yes h20 q
      have ht := (h.2.1.2.2.2.1 u u1).2.2.2.1 t (List.mem_of_getElem? j3)
      subst j1
      refine ⟨.inr (trw t), ?_, fun S' hc => ask_ok hc ?_⟩
      · unfold f_X5_trialReward
        rw [ua_t h u2 u1, gd_i hU.1.1, hU.p1.1, gb_S, ti_yes h u1 j2, gbx1_R, c_val hU.p1.2.1 hU.p1.2.2 (by omega) (by decide), gb_S, ((h.1.2.1.1.2 u (by omega)).2.1 _ t j3).2]
      · unfold f_X6_trialReward f_X6_rewardOf
        rw [gd_i hc.m.1, ta_yes h hc hu u1 u2 j2 j3, gb2_S, th_at, if_pos rfl, gb_S, tcd_d32 ht]
    · refine ⟨.inl eNS, ?_, fun S' hc => ask_no hc (i := 1) (b := 0) ?_ rfl⟩
      · unfold f_X5_trialReward
        rw [ua_t h u2 u1, gd_i hU.1.1, hU.p1.1, gb_S, ti_no h u1 (trial_no h20 q), gbx1_L]
      · unfold f_X6_trialReward
        rw [gd_i hc.m.1, ta_no h hc hu u1 u2 q, gb2_S, th_at, if_neg (by decide)]
        rfl
end DB
