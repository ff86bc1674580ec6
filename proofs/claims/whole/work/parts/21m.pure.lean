/-! the eight changes, undo, save, restore: both sides alike -/
section CZ
variable {G : gG} {S : gS} {T : gT} {A : aW} {N : Nat} {X Y Z : mX}
theorem row_in {S : gS} {A : aW} {w : Nat → Int32} {S8 : gS} (h : gr S8 (ar A 0) = w) : S8 = srow S8 (ar A 0) w := by rw [← h, srow_eta]
theorem do_row {F : gS → Option (Int32 × gS)} {v : Int32} {M M' : mB} (h : ∀ w, rowR w M → ∀ S8, mSh G S8 (am A) (ar A) → wp (F (srow S8 (ar A 0) w)) (fun y => y.1 = v ∧ ∃ w', y.2 = srow S8 (ar A 0) w' ∧ rowR w' M')) : ∀ S8, mSh G S8 (am A) (ar A) → rowR (gr S8 (ar A 0)) M → wp (F S8) (fun y => y.1 = v ∧ ∃ w', y.2 = srow S8 (ar A 0) w' ∧ rowR w' M') := by
  intro S8 m8 r8
  have := h _ r8 S8 m8
  rw [srow_eta] at this
  exact this
def csIA : List String := ["java/lang/IndexOutOfBoundsException", "java/lang/IllegalArgumentException"]
theorem mFor_cs {M : mB} {a : Int32} {ok : Bool} (h : mFor M a ok ≠ 0) : ∃ i, csIA[i]? = some (mEx (mFor M a ok)) ∧ nI (mFor M a ok) = nI (i + 1) := by
  unfold mFor at h ⊢
  cases h1 : mUmb M a with
  | false => exact ⟨0, rfl, rfl⟩
  | true =>
    cases ok with
    | false => exact ⟨1, rfl, rfl⟩
    | true => rw [h1] at h; exact absurd rfl h
theorem mFor_nI {M : mB} {a : Int32} {ok : Bool} : nI (mFor M a ok) = 0 ↔ mFor M a ok = 0 := by
  refine nI_0iff ?_
  unfold mFor
  split
  · split <;> decide
  · decide
theorem x_add {G : gG} {S : gS} {T : gT} {A : aW} {N : Nat} {X : mX} (h : wR G S T A N X) (hN : N + 40000 ≤ 2 ^ 30) (a : Int32) : tStep G T A N X ["java/lang/IllegalArgumentException", "java/lang/IllegalStateException"] (fun res S1 T1 => f_X5_addUmbrella G (ax A) a S = some (res, S1) ∧ T1 = T) (fun S' b S2 => f_X6_addUmbrella G (am A) a S' = some (b, S2)) := by
  obtain ⟨hc, hW⟩ := h
  have en : mNot X.1.1 0 a 0 0 0 = if mBtw a 3 20 = true then (if mc X.1.1 < 6 then 0 else 3) else 2 := rfl
  refine t_gen ⟨hc, hW⟩ hN (k := 0) (by decide) (a := a) (b := 0) (c := 0) (d := 0) (if mBtw a 3 20 = true then (if mc X.1.1 < 6 then 0 else 2) else 1) (fun z => z) ?_ ?_ ?_ ?_
  · unfold f_X5_addUmbrella
    rw [gd_i hc.1.1.1, gbx2_id]
  · rw [en]
    cases mBtw a 3 20 with
    | false => rw [if_neg (by decide), if_neg (by decide)]; decide
    | true =>
      by_cases q : mc X.1.1 < 6
      · rw [if_pos rfl, if_pos rfl, if_pos q, if_pos q]; decide
      · rw [if_pos rfl, if_pos rfl, if_neg q, if_neg q]; decide
  · rw [en]
    cases mBtw a 3 20 with
    | false => exact fun _ => ⟨0, rfl, rfl⟩
    | true =>
      by_cases q : mc X.1.1 < 6
      · rw [if_pos rfl, if_pos q]; exact fun z => absurd rfl z
      · rw [if_pos rfl, if_pos rfl, if_neg q, if_neg q]; exact fun _ => ⟨1, rfl, rfl⟩
  · intro Z S' hc'
    unfold f_X6_addUmbrella
    refine q_gen (NOT := fun S => f_X6_notAdd G (am A) a S) (DO := fun S => f_X6_addsUmbrella G (am A) a S) (φ := fun z => z) hc' hW (n_add hc'.m.I hc'.2.2.1 hW.1 a) (fun z => ?_)
    have h5 : mc X.1.1 < 6 := by
      by_cases q : mc X.1.1 < 6
      · exact q
      · rw [if_neg q] at z
        revert z
        cases mBtw a 3 20 <;> intro z <;> exact absurd z (by decide)
    exact do_row (fun w hw S8 m8 => q_add m8 hw hW.1 h5 a)
theorem x_train (h : wR G S T A N X) (hN : N + 40000 ≤ 2 ^ 30) (a b c d : Int32) : tStep G T A N X csIA (fun res S1 T1 => f_X5_train G (ax A) a b c d S = some (res, S1) ∧ T1 = T) (fun S' z S2 => f_X6_train G (am A) a b c d S' = some (z, S2)) := by
  obtain ⟨hc, hW⟩ := h
  have en : mNot X.1.1 1 a b c d = mFor X.1.1 a (mLev b && mLev c && mBtw d 1 9) := rfl
  refine t_gen ⟨hc, hW⟩ hN (k := 1) (by decide) (a := a) (b := b) (c := c) (d := d) (nI (mFor X.1.1 a (mLev b && mLev c && mBtw d 1 9))) (fun z => z) ?_ mFor_nI mFor_cs ?_
  · unfold f_X5_train
    rw [gd_i hc.1.1.1, gbx2_id]
  · intro Z S' hc'
    unfold f_X6_train
    refine q_gen (NOT := fun S => f_X6_notTrain G (am A) a b c d S) (DO := fun S => f_X6_trains G (am A) a b c d S) (φ := fun z => z) hc' hW (n_train hc'.m.I hc'.2.2.1 a b c d) (fun z => ?_)
    obtain ⟨q1, q2⟩ := mFor_0 (mFor_nI.mp z)
    obtain ⟨u, u1, u2, u3⟩ := mUmb_t hW.1 q1
    have q3 := (Bool.and_eq_true _ _).mp q2
    have q4 := (Bool.and_eq_true _ _).mp q3.1
    obtain ⟨rn, r1, r2, r3⟩ := mLev_t q4.1
    obtain ⟨wd, w1, w2, w3⟩ := mLev_t q4.2
    obtain ⟨t, t1, t2, t3⟩ := mBtw_t (n := 9) (by decide) rfl (mBtw_0 (by decide) q3.2)
    show ∀ S8, mSh G S8 (am A) (ar A) → rowR (gr S8 (ar A 0)) X.1.1 → wp (f_X6_trains G (am A) a b c d S8) (fun y => y.1 = (mTrs a.toNatClampNeg b.toNatClampNeg c.toNatClampNeg d.toNatClampNeg 0 X.1.1).1 ∧ ∃ w', y.2 = srow S8 (ar A 0) w' ∧ rowR w' (mTrs a.toNatClampNeg b.toNatClampNeg c.toNatClampNeg d.toNatClampNeg 0 X.1.1).2)
    rw [u3, r3, w3, t3]
    exact do_row (fun w hw S8 m8 => q_train m8 hw hW.1 (by omega) u2 r2 w2 t2 u1 r1 w1 t1)
theorem x_period (h : wR G S T A N X) (hN : N + 40000 ≤ 2 ^ 30) (a b : Int32) : tStep G T A N X csIA (fun res S1 T1 => f_X5_setPeriod G (ax A) a b S = some (res, S1) ∧ T1 = T) (fun S' z S2 => f_X6_setPeriod G (am A) a b S' = some (z, S2)) := by
  obtain ⟨hc, hW⟩ := h
  refine t_gen ⟨hc, hW⟩ hN (k := 2) (by decide) (a := a) (b := b) (c := 0) (d := 0) (nI (mFor X.1.1 a (mBtw b 0 9))) (fun z => z) ?_ mFor_nI mFor_cs ?_
  · unfold f_X5_setPeriod
    rw [gd_i hc.1.1.1, gbx2_id]
  · intro Z S' hc'
    unfold f_X6_setPeriod
    refine q_gen (NOT := fun S => f_X6_notPeriod G (am A) a b S) (DO := fun S => f_X6_setsPeriod G (am A) a b S) (φ := fun z => z) hc' hW (n_period hc'.m.I hc'.2.2.1 a b) (fun z => ?_)
    obtain ⟨q1, q2⟩ := mFor_0 (mFor_nI.mp z)
    obtain ⟨u, u1, u2, u3⟩ := mUmb_t hW.1 q1
    show ∀ S8, mSh G S8 (am A) (ar A) → rowR (gr S8 (ar A 0)) X.1.1 → wp (f_X6_setsPeriod G (am A) a b S8) (fun y => y.1 = (X.1.1.2 a.toNatClampNeg).1 1 ∧ ∃ w', y.2 = srow S8 (ar A 0) w' ∧ rowR w' (mSet X.1.1 a.toNatClampNeg (upd (X.1.1.2 a.toNatClampNeg).1 1 b, (X.1.1.2 a.toNatClampNeg).2)))
    rw [u3]
    exact do_row (fun w hw S8 m8 => q_period m8 hw hW.1 u1 b u2)
theorem pen_iff (a : Int32) : (if mBtw a 0 9 = true then (0 : Int32) else 1) = 0 ↔ (if mBtw a 0 9 = true then 0 else 2) = 0 := by
  cases mBtw a 0 9 <;> decide
theorem pen_cs (a : Int32) : (if mBtw a 0 9 = true then 0 else 2) ≠ 0 → ∃ i, ["java/lang/IllegalArgumentException"][i]? = some (mEx (if mBtw a 0 9 = true then 0 else 2)) ∧ (1 : Int32) = nI (i + 1) := by
  cases mBtw a 0 9 with
  | false => exact fun _ => ⟨0, rfl, rfl⟩
  | true => exact fun z => absurd rfl z
theorem x_pen {k w : Nat} (hw0 : 0 < w) (hw8 : w < 8) {F5 : Option ((String ⊕ Int32) × gS)} {F6 : gS → Option (Int32 × gS)} {a wi : Int32} (hwi : wi = nI w) (hk : k < 8) (hn : ∀ M, mNot M k a 0 0 0 = if mBtw a 0 9 = true then 0 else 2) (hd : ∀ M, mDo M k a 0 0 0 = (M.1 w, (upd M.1 w a, M.2))) (h : wR G S T A N X) (hN : N + 40000 ≤ 2 ^ 30) (h5 : F5 = f_X5_change G (ax A) k a 0 0 0 S) (h6 : ∀ S', F6 S' = gd (gis G 3 (am A)) (f_X6_setsChecked G (am A) wi a S')) : tStep G T A N X ["java/lang/IllegalArgumentException"] (fun res S1 T1 => F5 = some (res, S1) ∧ T1 = T) (fun S' z S2 => F6 S' = some (z, S2)) := by
  obtain ⟨hc, hW⟩ := h
  refine t_gen ⟨hc, hW⟩ hN (k := k) hk (a := a) (b := 0) (c := 0) (d := 0) (if mBtw a 0 9 = true then 0 else 1) (fun _ => 1) h5 ?_ ?_ ?_
  · rw [hn]; exact pen_iff a
  · rw [hn]; exact pen_cs a
  · intro Z S' hc'
    rw [h6, gd_i hc'.m.1, hd]
    unfold f_X6_setsChecked
    exact q_gen (NOT := fun S => f_X6_notPenalty a) (DO := fun S => f_X6_sets G (am A) wi a S) (φ := fun _ => 1) hc' hW (n_pen a) (fun z => do_row (fun w' hw S8 m8 => q_sets m8 hw hW.1 hw0 hw8 a hwi))
theorem gb2_id {α : Type} (x : Option (α × gS)) : (gb2 x fun r S => some (r, S)) = x := by
  cases x <;> rfl
theorem x_wet (h : wR G S T A N X) (hN : N + 40000 ≤ 2 ^ 30) (a : Int32) : tStep G T A N X ["java/lang/IllegalArgumentException"] (fun res S1 T1 => f_X5_setWetPenalty G (ax A) a S = some (res, S1) ∧ T1 = T) (fun S' z S2 => f_X6_setWetPenalty G (am A) a S' = some (z, S2)) := by
  refine x_pen (k := 3) (w := 1) (a := a) (wi := 1) (by decide) (by decide) rfl (by decide) (fun _ => rfl) (fun _ => rfl) h hN ?_ (fun S' => ?_)
  · unfold f_X5_setWetPenalty
    rw [gd_i h.1.1.1.1, gbx2_id]
  · unfold f_X6_setWetPenalty
    rw [gb2_id]
theorem x_gale (h : wR G S T A N X) (hN : N + 40000 ≤ 2 ^ 30) (a : Int32) : tStep G T A N X ["java/lang/IllegalArgumentException"] (fun res S1 T1 => f_X5_setGalePenalty G (ax A) a S = some (res, S1) ∧ T1 = T) (fun S' z S2 => f_X6_setGalePenalty G (am A) a S' = some (z, S2)) := by
  refine x_pen (k := 4) (w := 2) (a := a) (wi := 2) (by decide) (by decide) rfl (by decide) (fun _ => rfl) (fun _ => rfl) h hN ?_ (fun S' => ?_)
  · unfold f_X5_setGalePenalty
    rw [gd_i h.1.1.1.1, gbx2_id]
  · unfold f_X6_setGalePenalty
    rw [gb2_id]
theorem x_forget (h : wR G S T A N X) (hN : N + 40000 ≤ 2 ^ 30) (a b : Int32) : tStep G T A N X csIA (fun res S1 T1 => f_X5_forgetRain G (ax A) a b S = some (res, S1) ∧ T1 = T) (fun S' z S2 => f_X6_forgetRain G (am A) a b S' = some (z, S2)) := by
  obtain ⟨hc, hW⟩ := h
  refine t_gen ⟨hc, hW⟩ hN (k := 5) (by decide) (a := a) (b := b) (c := 0) (d := 0) (nI (mFor X.1.1 a (mLev b))) (fun z => z) ?_ mFor_nI mFor_cs ?_
  · unfold f_X5_forgetRain
    rw [gd_i hc.1.1.1, gbx2_id]
  · intro Z S' hc'
    unfold f_X6_forgetRain
    refine q_gen (NOT := fun S => f_X6_notOne G (am A) a b S) (DO := fun S => f_X6_forgets G (am A) a b S) (φ := fun z => z) hc' hW (n_one hc'.m.I hc'.2.2.1 a b) (fun z => ?_)
    obtain ⟨q1, q2⟩ := mFor_0 (mFor_nI.mp z)
    obtain ⟨u, u1, u2, u3⟩ := mUmb_t hW.1 q1
    obtain ⟨rn, r1, r2, r3⟩ := mLev_t q2
    show ∀ S8, mSh G S8 (am A) (ar A) → rowR (gr S8 (ar A 0)) X.1.1 → wp (f_X6_forgets G (am A) a b S8) (fun y => y.1 = nI ((X.1.1.2 a.toNatClampNeg).2.length - (mKeep (X.1.1.2 a.toNatClampNeg).2 b.toNatClampNeg).length) ∧ ∃ w', y.2 = srow S8 (ar A 0) w' ∧ rowR w' (mSet X.1.1 a.toNatClampNeg (mForget (X.1.1.2 a.toNatClampNeg) b.toNatClampNeg)))
    rw [u3, r3]
    exact do_row (fun w hw S8 m8 => q_forget m8 hw hW.1 u2 r2 u1 r1)
theorem x_exam (h : wR G S T A N X) (hN : N + 40000 ≤ 2 ^ 30) (a b : Int32) : tStep G T A N X csIA (fun res S1 T1 => f_X5_examine G (ax A) a b S = some (res, S1) ∧ T1 = T) (fun S' z S2 => f_X6_examine G (am A) a b S' = some (z, S2)) := by
  obtain ⟨hc, hW⟩ := h
  refine t_gen ⟨hc, hW⟩ hN (k := 6) (by decide) (a := a) (b := b) (c := 0) (d := 0) (nI (mFor X.1.1 a (mLev b))) (fun z => z) ?_ mFor_nI mFor_cs ?_
  · unfold f_X5_examine
    rw [gd_i hc.1.1.1, gbx2_id]
  · intro Z S' hc'
    unfold f_X6_examine
    refine q_gen (NOT := fun S => f_X6_notOne G (am A) a b S) (DO := fun S => f_X6_examines G (am A) a b S) (φ := fun z => z) hc' hW (n_one hc'.m.I hc'.2.2.1 a b) (fun z => ?_)
    obtain ⟨q1, q2⟩ := mFor_0 (mFor_nI.mp z)
    obtain ⟨u, u1, u2, u3⟩ := mUmb_t hW.1 q1
    obtain ⟨wd, r1, r2, r3⟩ := mLev_t q2
    show ∀ S8, mSh G S8 (am A) (ar A) → rowR (gr S8 (ar A 0)) X.1.1 → wp (f_X6_examines G (am A) a b S8) (fun y => y.1 = mRA X.1.1 a.toNatClampNeg b.toNatClampNeg ∧ ∃ w', y.2 = srow S8 (ar A 0) w' ∧ rowR w' (mExam X.1.1 a.toNatClampNeg b.toNatClampNeg))
    rw [u3, r3]
    exact do_row (fun w hw S8 m8 => q_exam m8 hw hW.1 u2 r2 u1 r1)
theorem x_term (h : wR G S T A N X) (hN : N + 40000 ≤ 2 ^ 30) : tStep G T A N X ["java/lang/IllegalStateException"] (fun res S1 T1 => f_X5_endTerm G (ax A) S = some (res, S1) ∧ T1 = T) (fun S' z S2 => f_X6_endTerm G (am A) S' = some (z, S2)) := by
  obtain ⟨hc, hW⟩ := h
  have en : mNot X.1.1 7 0 0 0 0 = if 0 < mc X.1.1 then 0 else 3 := rfl
  refine t_gen ⟨hc, hW⟩ hN (k := 7) (by decide) (a := 0) (b := 0) (c := 0) (d := 0) (if 0 < mc X.1.1 then 0 else 1) (fun _ => 1) ?_ ?_ ?_ ?_
  · unfold f_X5_endTerm
    rw [gd_i hc.1.1.1, gbx2_id]
  · rw [en]
    by_cases q : 0 < mc X.1.1
    · rw [if_pos q, if_pos q]; decide
    · rw [if_neg q, if_neg q]; decide
  · rw [en]
    by_cases q : 0 < mc X.1.1
    · rw [if_pos q]; exact fun z => absurd rfl z
    · rw [if_neg q]; exact fun _ => ⟨0, rfl, rfl⟩
  · intro Z S' hc'
    unfold f_X6_endTerm
    refine q_gen (NOT := fun S => f_X6_notEnd G (am A) S) (DO := fun S => f_X6_endsTerm G (am A) S) (φ := fun _ => 1) hc' hW (n_end hc'.m.I hc'.2.2.1 hW.1) (fun z => ?_)
    have h0 : 0 < mc X.1.1 := by
      by_cases q : 0 < mc X.1.1
      · exact q
      · rw [if_neg q] at z; exact absurd z (by decide)
    exact do_row (fun w hw S8 m8 => q_term m8 hw hW.1 h0)
end CZ
