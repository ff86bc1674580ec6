/-! calls that change: both sides alike -/
def tOut {α : Type} (cs : List String) (res : String ⊕ α) (b : α) (th : Int32) : Prop := match res with
  | .inl E => ∃ i, cs[i]? = some E ∧ th = nI (i + 1)
  | .inr v => th = 0 ∧ b = v
def wR (G : gG) (S : gS) (T : gT) (A : aW) (N : Nat) (X : mX) : Prop := wC G S T A X X ∧ wX N X
/-- the law's own rows are left alone -/
def oK (A : aW) (S S' : gS) : Prop := (∀ i, gr S' (ao A) i = gr S (ao A) i) ∧ ∀ i, gr S' (aoD A) i = gr S (aoD A) i
theorem oK.trans {A : aW} {S1 S2 S3 : gS} (h1 : oK A S1 S2) (h2 : oK A S2 S3) : oK A S1 S3 := ⟨fun i => (h2.1 i).trans (h1.1 i), fun i => (h2.2 i).trans (h1.2 i)⟩
theorem oK.I {A : aW} {S : gS} {f a : Nat} {v : Int32} : oK A S (sI S f a v) := ⟨fun _ => rfl, fun _ => rfl⟩
theorem oK.ref {G : gG} {A : aW} {S S' : gS} {Xs : List Nat} (hs : wSh G S A) (e : gFr Xs S S') (hin : ∀ a ∈ Xs, a = am A ∨ ∃ j, j < 7 ∧ a = ar A j) : oK A S S' := by
  obtain ⟨y1, y2, y3, y4, -⟩ := hs.2.2.2.2.2.2.2.2.2
  refine ⟨fun i => (e.1 _ (fun q => ?_)).2 i, fun i => (e.1 _ (fun q => ?_)).2 i⟩
  · rcases hin _ q with z | ⟨j, hj, z⟩
    · exact y3 z.symm
    · exact (hs.2.2.2.2.1.2.2 j hj).1 z.symm
  · rcases hin _ q with z | ⟨j, hj, z⟩
    · exact y4 z.symm
    · exact (hs.2.2.2.2.1.2.2 j hj).2 z.symm
/-- the class answers and goes on to X'; then the reference, wherever the law's own rows stand, answers alike and goes on to X' -/
def tStep {α : Type} (G : gG) (T : gT) (A : aW) (N : Nat) (X : mX) (cs : List String) (E5 : (String ⊕ α) → gS → gT → Prop) (E6 : gS → α → gS → Prop) : Prop :=
  ∃ (res : String ⊕ α) (S1 : gS) (T1 : gT) (X' : mX), E5 res S1 T1 ∧ wX (N + 40000) X' ∧ wC G S1 T1 A X' X ∧ ∀ S1', wC G S1' T1 A X' X → ∃ (b : α) (S2 : gS), E6 S1' b S2 ∧ wC G S2 T1 A X' X' ∧ oK A S1' S2 ∧ tOut cs res b (gI S2 30 (am A))
section CY
variable {G : gG} {S : gS} {T : gT} {A : aW} {N : Nat} {X Y Z : mX}
theorem mSh.ne {m : Nat} {r : Nat → Nat} (h : mSh G S m r) {j : Nat} (hj : j < 7) : r j ≠ m := by
  intro e
  have h1 := h.1.2
  have h2 := (h.2.1 j hj).2.1.2
  rw [e, h1] at h2
  unfold g6k at h2
  split at h2 <;> exact absurd h2 (by decide)
/-- a field of the reference that nothing else speaks of -/
theorem wC.I (h : wC G S T A X Y) {S' : gS} {f : Nat} {v : Int32} (e : S' = sI S f (am A) v) (hf : f = 30 ∨ f = 36 ∨ f = 39 ∨ f = 40) : wC G S' T A X Y := by
  have f1 := (gFr.rfl' (S := S)).I' e (List.mem_cons_self (a := am A) (l := []))
  refine h.ref f1 (fun a ha => Or.inl (List.mem_singleton.mp ha)) ?_ ?_
  · rw [e]; exact h.2.2.1
  · exact h.2.2.2.ext (fun g hg => by rw [e, gI_sI, if_neg (fun q => by omega)]) (fun j _ => by rw [e]; rfl)
theorem xChg_wX {M' : mB} (hW : wX N X) (hM : bW (N + 640) M') : wX (N + 640) (xChg X M') := by
  obtain ⟨w1, w2, ⟨w3, w3'⟩, w4⟩ := hW
  refine ⟨hM, fun q => (w2 q).mono (by omega), ⟨mPush_len w3, fun M hm => ?_⟩, w4⟩
  rcases mPush_mem hm with q | q
  · exact (w3' M q).mono (by omega)
  · rw [q]; exact w1.mono (by omega)
theorem wX.mono {N' : Nat} (h : wX N X) (hN : N ≤ N') : wX N' X := by
  obtain ⟨w1, w2, ⟨w3, w3'⟩, w4⟩ := h
  exact ⟨w1.mono hN, fun q => (w2 q).mono hN, ⟨w3, fun M hm => (w3' M hm).mono hN⟩, w4⟩
theorem q_gen (hc : wC G S T A Z X) (hW : wX N X) {NOT : gS → Option Int32} {DO : gS → Option (Int32 × gS)} {code v : Int32} {φ : Int32 → Int32} {M' : mB} (h1 : NOT (sI S 30 (am A) 0) = some code)
    (h2 : code = 0 → ∀ S8, mSh G S8 (am A) (ar A) → rowR (gr S8 (ar A 0)) X.1.1 → wp (DO S8) (fun y => y.1 = v ∧ ∃ w', y.2 = srow S8 (ar A 0) w' ∧ rowR w' M')) :
    wp (gd (gis G 3 (am A)) <| glt (sI S 30 (am A) 0) fun S_2 => gb (NOT S_2) fun r_5 => if r_5 = 0 then (gb (f_X6_remembers G (am A) S_2) fun S_8 => gb2 (DO S_8) fun r S' => some (r, S')) else (gb2 (f_X6_fails G (am A) (φ r_5) S_2) fun r S' => some (r, S')))
      (fun y => oK A S y.2 ∧ (code ≠ 0 → gI y.2 30 (am A) = φ code ∧ wC G y.2 T A Z X) ∧ (code = 0 → y.1 = v ∧ gI y.2 30 (am A) = 0 ∧ wC G y.2 T A Z (xChg X M'))) := by
  refine wp_gd hc.m.1 (wp_glt (fun S2 e2 => ?_))
  rw [← e2] at h1
  have c2 := hc.I e2 (Or.inl rfl)
  refine wp_gb h1 ?_
  by_cases q : code = 0
  · refine wp_t q ?_
    obtain ⟨w1, w2, ⟨w3, w3'⟩, w4⟩ := hW
    refine wp_gbw (q_remembers c2.m c2.2.2.2 w3 w1 w3' c2.2.2.1) ?_
    rintro S8 ⟨r1, r2, r3, f1⟩
    have m8 := c2.m.fr f1
    refine wp_gb2w (h2 q S8 m8 r1) ?_
    rintro v1 S9 ⟨v2, w', e9, r9⟩
    have hin : ∀ a ∈ [am A, ar A 1, ar A 3, ar A 0], a = am A ∨ ∃ j, j < 7 ∧ a = ar A j := fun a ha => by
      rcases List.mem_cons.mp ha with z | z
      · exact Or.inl z
      · rcases List.mem_cons.mp z with z | z
        · exact Or.inr ⟨1, by decide, z⟩
        · rcases List.mem_cons.mp z with z | z
          · exact Or.inr ⟨3, by decide, z⟩
          · exact Or.inr ⟨0, by decide, List.mem_singleton.mp z⟩
    have f9 : gFr [am A, ar A 1, ar A 3, ar A 0] S2 S9 := (f1.mono (fun a ha => by
        rcases List.mem_cons.mp ha with z | z
        · rw [z]; simp
        · rcases List.mem_cons.mp z with z | z
          · rw [z]; simp
          · rw [List.mem_singleton.mp z]; simp)).row' (show S9 = srow S8 (ar A 0) w' from e9) (by simp)
    refine wp_ret ⟨oK.trans (by rw [e2]; exact oK.I) (oK.ref c2.1 f9 hin), fun z => absurd q z, fun _ => ⟨v2, ?_, ?_⟩⟩
    · have e9 : S9 = srow S8 (ar A 0) w' := e9
      show gI S9 30 (am A) = 0
      rw [e9]
      show gI S8 30 (am A) = 0
      rw [r3, e2, gI_sI, if_pos ⟨rfl, rfl⟩]
    · have e9 : S9 = srow S8 (ar A 0) w' := e9
      have f9 : gFr [am A, ar A 1, ar A 3, ar A 0] S2 S9 := (f1.mono (fun a ha => by
        rcases List.mem_cons.mp ha with z | z
        · rw [z]; simp
        · rcases List.mem_cons.mp z with z | z
          · rw [z]; simp
          · rw [List.mem_singleton.mp z]; simp)).row' e9 (by simp)
      refine c2.ref (Z := xChg X M') f9 (fun a ha => ?_) ?_ ?_
      · rcases List.mem_cons.mp ha with z | z
        · exact Or.inl z
        · rcases List.mem_cons.mp z with z | z
          · exact Or.inr ⟨1, by decide, z⟩
          · rcases List.mem_cons.mp z with z | z
            · exact Or.inr ⟨3, by decide, z⟩
            · exact Or.inr ⟨0, by decide, List.mem_singleton.mp z⟩
      · show rowR (gr S9 (ar A 0)) M'
        rw [e9, gr_same]
        exact r9
      · exact r2.ext (fun f _ => by rw [e9]; rfl) (fun j hj => by rw [e9]; exact gr_other _ (m8.2.2 j 0 (by omega) (by decide) (by omega)))
  · refine wp_f q ?_
    unfold f_X6_fails
    refine wp_gb2w (R := fun y => y = (0, sI S2 30 (am A) (φ code))) (wp_gd hc.m.1 (wp_glt (fun S3 e3 => wp_ret (by rw [e3])))) ?_
    rintro v1 S3 e3
    cases e3
    exact wp_ret ⟨oK.trans (by rw [e2]; exact oK.I) oK.I, fun _ => ⟨by show gI (sI S2 30 (am A) (φ code)) 30 (am A) = _; rw [gI_sI, if_pos ⟨rfl, rfl⟩], c2.I rfl (Or.inl rfl)⟩, fun z => absurd z q⟩
-- what the reference refuses
theorem n_umb (h : mSh G S (am A) (ar A)) {M : mB} (hR : rowR (gr S (ar A 0)) M) (a : Int32) : f_X6_isUmbrella G (am A) a S = some (mUmb M a) := by
  rw [q_isU h, hR.1 0 (by decide)]
  rfl
theorem n_sit (a b : Int32) : f_X6_isSituation a b = some (mLev a && mLev b) := by
  unfold f_X6_isSituation
  rw [q_isB, q_isB, gb_S, gb_S]
  show (if gz (mLev a) = 0 then _ else (if gz (mLev b) = 0 then _ else _)) = _
  cases mLev a <;> cases mLev b <;> rfl
theorem n_train (h : mSh G S (am A) (ar A)) {M : mB} (hR : rowR (gr S (ar A 0)) M) (a b c d : Int32) : f_X6_notTrain G (am A) a b c d S = some (nI (mFor M a (mLev b && mLev c && mBtw d 1 9))) := by
  unfold f_X6_notTrain
  rw [gd_i h.1, n_umb h hR, gb_S, n_sit, gb_S, q_isB, gb_S]
  unfold mFor
  show (if gz (mUmb M a) = 0 then _ else if gz (mLev b && mLev c) = 0 then _ else if gz (mBtw d 1 9) = 0 then _ else _) = _
  cases mUmb M a <;> cases (mLev b && mLev c) <;> cases mBtw d 1 9 <;> rfl
theorem n_period (h : mSh G S (am A) (ar A)) {M : mB} (hR : rowR (gr S (ar A 0)) M) (a b : Int32) : f_X6_notPeriod G (am A) a b S = some (nI (mFor M a (mBtw b 0 9))) := by
  unfold f_X6_notPeriod
  rw [gd_i h.1, n_umb h hR, gb_S, q_isB, gb_S]
  unfold mFor
  show (if gz (mUmb M a) = 0 then _ else if gz (mBtw b 0 9) = 0 then _ else _) = _
  cases mUmb M a <;> cases mBtw b 0 9 <;> rfl
theorem n_one (h : mSh G S (am A) (ar A)) {M : mB} (hR : rowR (gr S (ar A 0)) M) (a b : Int32) : f_X6_notOne G (am A) a b S = some (nI (mFor M a (mLev b))) := by
  unfold f_X6_notOne
  rw [gd_i h.1, n_umb h hR, gb_S, q_isB, gb_S]
  unfold mFor
  show (if gz (mUmb M a) = 0 then _ else if gz (mLev b) = 0 then _ else _) = _
  cases mUmb M a <;> cases mLev b <;> rfl
theorem n_pen (a : Int32) : f_X6_notPenalty a = some (if mBtw a 0 9 = true then 0 else 1) := by
  unfold f_X6_notPenalty
  rw [q_isB, gb_S]
  show (if gz (mBtw a 0 9) = 0 then _ else _) = _
  cases mBtw a 0 9 <;> rfl
theorem n_add (h : mSh G S (am A) (ar A)) {M : mB} (hR : rowR (gr S (ar A 0)) M) (hW : bW N M) (a : Int32) : f_X6_notAdd G (am A) a S = some (if mBtw a 3 20 = true then (if mc M < 6 then 0 else 2) else 1) := by
  have h6 := hW.1.2
  obtain ⟨h1, h2, h3, h4⟩ := w_ok h (k := 0) (n := 0) rfl (by decide)
  unfold f_X6_notAdd
  rw [q_isB, gb_S, gd_i h.1, h1, gb_S, gd_i h2, gd_i h3, h4, q_cnt hR hW]
  show (if gz (mBtw a 3 20) = 0 then _ else _) = _
  cases mBtw a 3 20 with
  | false => rfl
  | true =>
    rw [if_neg (by decide), if_pos rfl, show (6 : Int32) = nI 6 from rfl]
    by_cases q : mc M < 6
    · rw [if_neg (fun z => by have := (nI_eq (a := mc M) (b := 6) (by omega) (by decide)).mp z; omega), if_pos q]
    · rw [if_pos (congrArg nI (show mc M = 6 by omega)), if_neg q]
theorem n_end (h : mSh G S (am A) (ar A)) {M : mB} (hR : rowR (gr S (ar A 0)) M) (hW : bW N M) : f_X6_notEnd G (am A) S = some (if 0 < mc M then 0 else 1) := by
  have h6 := hW.1.2
  obtain ⟨h1, h2, h3, h4⟩ := w_ok h (k := 0) (n := 0) rfl (by decide)
  unfold f_X6_notEnd
  rw [gd_i h.1, h1, gb_S, gd_i h2, gd_i h3, h4, q_cnt hR hW]
  by_cases q : 0 < mc M
  · rw [if_neg (fun z => by have := (nI_0iff (by omega)).mp z; omega), if_pos q]
  · rw [if_pos (by rw [show mc M = 0 by omega]; rfl), if_neg q]
/-- the class's half of a change, then the reference's -/
theorem t_gen (h : wR G S T A N X) (hN : N + 40000 ≤ 2 ^ 30) {k : Nat} (hk : k < 8) {a b c d : Int32} {cs : List String} {F5 : Option ((String ⊕ Int32) × gS)} {F6 : gS → Option (Int32 × gS)} (code : Int32) (φ : Int32 → Int32)
    (h5 : F5 = f_X5_change G (ax A) k a b c d S) (hcode : code = 0 ↔ mNot X.1.1 k a b c d = 0) (hcs : mNot X.1.1 k a b c d ≠ 0 → ∃ i, cs[i]? = some (mEx (mNot X.1.1 k a b c d)) ∧ φ code = nI (i + 1))
    (h6 : ∀ Z S', wC G S' T A Z X → wp (F6 S') (fun y => oK A S' y.2 ∧ (code ≠ 0 → gI y.2 30 (am A) = φ code ∧ wC G y.2 T A Z X) ∧ (code = 0 → y.1 = (mDo X.1.1 k a b c d).1 ∧ gI y.2 30 (am A) = 0 ∧ wC G y.2 T A Z (xChg X (mDo X.1.1 k a b c d).2)))) :
    tStep G T A N X cs (fun res S1 T1 => F5 = some (res, S1) ∧ T1 = T) (fun S' b S2 => F6 S' = some (b, S2)) := by
  obtain ⟨hc, hW⟩ := h
  obtain ⟨c1, c2⟩ := c_change hc hW (by omega) hk a b c d
  by_cases q : mNot X.1.1 k a b c d = 0
  · obtain ⟨⟨v, S1⟩, e1, e2, e3⟩ := c2 q
    have e2 : v = .inr (mDo X.1.1 k a b c d).1 := e2
    have e3 : wC G S1 T A (xChg X (mDo X.1.1 k a b c d).2) X := e3
    refine ⟨v, S1, T, xChg X (mDo X.1.1 k a b c d).2, ⟨h5.trans e1, rfl⟩, (xChg_wX hW (bW_do hW.1 (by omega) q)).mono (by omega), e3, fun S1' hc' => ?_⟩
    obtain ⟨⟨b', S2⟩, g1, gk, -, g2⟩ := h6 _ S1' hc'
    obtain ⟨g3, g4, g5⟩ := g2 (hcode.mpr q)
    refine ⟨b', S2, g1, g5, gk, ?_⟩
    rw [e2]
    exact ⟨g4, g3⟩
  · refine ⟨.inl (mEx (mNot X.1.1 k a b c d)), S, T, X, ⟨h5.trans (c1 q), rfl⟩, hW.mono (by omega), hc, fun S1' hc' => ?_⟩
    obtain ⟨⟨b', S2⟩, g1, gk, g2, -⟩ := h6 _ S1' hc'
    obtain ⟨g3, g4⟩ := g2 (fun z => q (hcode.mp z))
    obtain ⟨i, i1, i2⟩ := hcs q
    exact ⟨b', S2, g1, g4, gk, i, i1, g3.trans i2⟩
theorem gbx2_id {α : Type} (x : Option ((String ⊕ α) × gS)) : (gbx2 x (fun E S => some (.inl E, S)) fun r S => some (.inr r, S)) = x := by
  cases x with
  | none => rfl
  | some p =>
    obtain ⟨a, b⟩ := p
    cases a <;> rfl
end CY
