/-! undo, save, restore: both sides alike -/
section DA
variable {G : gG} {S : gS} {T : gT} {A : aW} {N : Nat} {X Y Z : mX}
theorem last_of {us : List mB} (h : us ≠ []) : ∃ M l, us.length = l + 1 ∧ us[l]? = some M ∧ us.dropLast.length = l ∧ ∀ (k : Nat) (Z : mB), us.dropLast[k]? = some Z → us[k]? = some Z ∧ k < l := by
  have h0 : 0 < us.length := List.length_pos_iff.mpr h
  refine ⟨us[us.length - 1], us.length - 1, by omega, List.getElem?_eq_getElem (by omega), List.length_dropLast, fun k Z hk => ?_⟩
  rw [List.getElem?_dropLast] at hk
  split at hk
  · exact ⟨hk, by omega⟩
  · cases hk
theorem fails_eq {m : Nat} {S : gS} {v : Int32} (h : gis G 3 m) : f_X6_fails G m v S = some (0, sI S 30 m v) := by
  unfold f_X6_fails
  rw [gd_i h, glt_S]
theorem th_at {S : gS} {m : Nat} {v : Int32} : gI (sI S 30 m v) 30 m = v := by rw [gI_sI, if_pos ⟨rfl, rfl⟩]
def xUndo (X : mX) (M : mB) : mX := ((M, X.1.2.1, X.1.2.2.dropLast), X.2)
theorem c_undo (h : wC G S T A X Y) (hW : wX N X) : (X.1.2.2 = [] → f_X5_undo G (ax A) S = some (.inl "java/lang/IllegalStateException", S)) ∧ ∀ M l, X.1.2.2.length = l + 1 → X.1.2.2[l]? = some M → X.1.2.2.dropLast.length = l → (∀ (k : Nat) (Z : mB), X.1.2.2.dropLast[k]? = some Z → X.1.2.2[k]? = some Z ∧ k < l) → wp (f_X5_undo G (ax A) S) (fun y => y.1 = .inr (nI l) ∧ wC G y.2 T A (xUndo X M) Y) := by
  obtain ⟨h1, ⟨h2, h3⟩, h4, h5⟩ := h
  obtain ⟨w1, w2, ⟨w3, w3'⟩, w4⟩ := hW
  obtain ⟨o1, ⟨o2, o3, o4, o5⟩, ⟨p, p1, p2, p3, p4⟩, o6⟩ := h3
  constructor
  · intro he
    unfold f_X5_undo
    rw [gd_i h1.1.1, o2, he, if_neg (by decide)]
  · intro M l e1 e2 e3 e4
    unfold f_X5_undo
    rw [o2, e1]
    refine wp_gd h1.1.1 (wp_t (nI_lt (a := 0) (by omega) (by omega)) (wp_glt (fun S1 g1 => ?_)))
    rw [nI_pred] at g1
    have f1 := (gFr.rfl' (S := S)).I' g1 (List.mem_cons_self (a := ax A) (l := []))
    have hx : ∀ b, b < 11 → ∀ a ∈ bFp (aB A b), a ∉ [ax A] := fun b hb a ha q => (h1.2.2.2.1 b hb).1 (by rw [List.mem_singleton.mp q] at ha; exact ha)
    have s1 := h1.fr f1
    have i20 : gI S1 20 (ax A) = nI l := by rw [g1, gI_sI, if_pos ⟨rfl, rfl⟩]
    have iN : ∀ f, f ≠ 20 → gI S1 f (ax A) = gI S f (ax A) := fun f hf => by rw [g1, gI_sI, if_neg (fun q => hf q.1)]
    have hl : l < 8 := by omega
    have hO : bW N M := w3' M (List.mem_of_getElem? e2)
    have hC1 : cO S1 T A X.1.2.1 X.1.2.2.dropLast X.2.1.1 X.2.1.2.1 X.2.1.2.2 X.2.2.1 X.2.2.2 := ⟨fun q => (o1 q).fr f1 (hx 1 (by decide)), ⟨by rw [i20, e3], (iN 21 (by decide)).trans o3, (iN 22 (by decide)).trans o4, (iN 23 (by decide)).trans o5⟩, ⟨p, p1, p2, fun i hi => (f1.2.2 _ _).trans (p3 i hi), fun k Z hk => by
      obtain ⟨g2, g3⟩ := e4 k Z hk
      exact ⟨by omega, (p4 k Z g2).2.fr f1 (hx _ (p1 k (by omega)).2)⟩⟩, o6⟩
    refine wp_gbw (c_back s1 hC1 (cur := M) hO i20 (by omega) ⟨p, p1, fun i hi => (f1.2.2 _ _).trans (p3 i hi), (p4 l M e2).2.fr f1 (hx _ (p1 l (by omega)).2)⟩) ?_
    rintro S2 ⟨r1, f2⟩
    have hb0 : ∀ b, 1 ≤ b → b < 11 → ∀ a ∈ bFp (aB A b), a ∉ bFp (aB A 0) := fun b q1 q2 => h1.sep q2 (by decide) (by omega)
    have i20' : gI S2 20 (ax A) = nI l := ((f2.1 _ (h1.2.2.2.1 0 (by decide)).1).1 20).trans i20
    refine wp_ret ⟨congrArg Sum.inr i20', s1.fr f2, ⟨r1, hC1.fh f2 (h1.2.2.2.1 0 (by decide)).1 hb0⟩, ?_, ?_⟩
    · have e : gr S2 (ar A 0) = gr S (ar A 0) := funext fun i => ((f2.1 _ ((h1.2.2.2.1 0 (by decide)).2.2.2.2 0 (by decide))).2 i).trans (by rw [g1]; rfl)
      rw [e]
      exact h4
    · refine h5.ext (fun f _ => ((f2.1 _ (h1.2.2.2.1 0 (by decide)).2.1).1 f).trans ?_) (fun j hj => funext fun i => ((f2.1 _ ((h1.2.2.2.1 0 (by decide)).2.2.2.2 j (by omega))).2 i).trans (by rw [g1]; rfl))
      rw [g1, gI_sI, if_neg (fun q => h1.2.2.2.2.1.1 q.2.symm)]
theorem q_undo (hc : wC G S T A Z X) (hW : wX N X) : (X.1.2.2 = [] → ∃ S2, f_X6_undo G (am A) S = some (0, S2) ∧ wC G S2 T A Z X ∧ oK A S S2 ∧ gI S2 30 (am A) = 1) ∧ ∀ M l, X.1.2.2.length = l + 1 → X.1.2.2[l]? = some M → X.1.2.2.dropLast.length = l → (∀ (k : Nat) (Z : mB), X.1.2.2.dropLast[k]? = some Z → X.1.2.2[k]? = some Z ∧ k < l) → wp (f_X6_undo G (am A) S) (fun y => y.1 = nI l ∧ wC G y.2 T A Z (xUndo X M) ∧ oK A S y.2 ∧ gI y.2 30 (am A) = 0) := by
  obtain ⟨w1, w2, ⟨w3, w3'⟩, w4⟩ := hW
  have c2 := hc.I (S' := sI S 30 (am A) 0) rfl (Or.inl rfl)
  obtain ⟨o1, ⟨o2, o3, o4, o5, o6, o7⟩, ⟨fc, k1, k2, k3⟩, o8⟩ := c2.2.2.2
  constructor
  · intro he
    unfold f_X6_undo
    rw [gd_i hc.m.1, glt_S, o2, he, if_pos (by decide), fails_eq hc.m.1, gb2_S]
    exact ⟨_, rfl, c2.I rfl (Or.inl rfl), oK.trans oK.I oK.I, th_at⟩
  · intro M l e1 e2 e3 e4
    unfold f_X6_undo
    refine wp_gd hc.m.1 (wp_glt (fun S1 g1 => ?_))
    rw [← g1] at o2 k2 c2
    rw [o2, e1]
    refine wp_f (nI_ne0 (by omega) (by omega)) (wp_glt (fun S2 g2 => wp_glt (fun z ez => ?_)))
    rw [nI_pred] at g2
    have i31 : gI S2 31 (am A) = nI l := by rw [g2, gI_sI, if_pos ⟨rfl, rfl⟩]
    have i32 : gI S2 32 (am A) = nI fc := by rw [g2, gI_sI, if_neg (fun q => absurd q.1 (by decide))]; exact k2
    rw [i32, i31, nI_add, show (8 : Int32) = nI 8 from rfl, nI_rem (by omega) (by decide)] at ez
    subst ez
    have m2 : mSh G S2 (am A) (ar A) := by rw [g2]; exact c2.m.I
    refine wp_mono (q_undo_L (to := (fc + l) % 8) (by omega) gN 0 S2 m2 (by decide) (by rw [gN_e]; decide)) ?_
    rintro ⟨v, S3⟩ ⟨f', q1, q2⟩
    have q1' : v = gI S2 31 (am A) := congrArg Prod.fst q1
    have q1'' : S3 = srow S2 (ar A 0) f' := congrArg Prod.snd q1
    have hO : bW N M := w3' M (List.mem_of_getElem? e2)
    have hR : rowR f' M := by
      have := k3 l M e2
      rw [show gr (sI S 30 (am A) 0) (ar A 1) = gr S2 (ar A 1) by rw [g2, g1]; rfl] at this
      exact this.cong hO.1.2 hO.lenc (fun j hj => by have := q2.1 j (Nat.zero_le _) hj; rw [Nat.zero_add] at this; exact this)
    have f2 : gFr [am A, ar A 0] S1 S3 := ((gFr.rfl' (S := S1)).I' g2 List.mem_cons_self).row' q1'' (by simp)
    have hin : ∀ a ∈ [am A, ar A 0], a = am A ∨ ∃ j, j < 7 ∧ a = ar A j := fun a ha => by
      rcases List.mem_cons.mp ha with z | z
      · exact Or.inl z
      · exact Or.inr ⟨0, by decide, List.mem_singleton.mp z⟩
    refine ⟨q1'.trans i31, c2.ref (Z := xUndo X M) f2 hin ?_ ?_, oK.trans (by rw [g1]; exact oK.I) (oK.ref c2.1 f2 hin), ?_⟩
    · show rowR (gr S3 (ar A 0)) M
      rw [q1'', gr_same]
      exact hR
    · have rj : ∀ j, j = 1 ∨ j = 2 ∨ j = 4 ∨ j = 5 → gr S3 (ar A j) = gr S (ar A j) := fun j hj => by
        rw [q1'', gr_other _ (m2.2.2 j 0 (by omega) (by decide) (by omega)), g2, g1]
        rfl
      have iN : ∀ f, f ≠ 31 → f ≠ 30 → gI S3 f (am A) = gI S f (am A) := fun f hf hf2 => by
        rw [q1'']
        show gI S2 f (am A) = _
        rw [g2, gI_sI, if_neg (fun q => hf q.1), g1, gI_sI, if_neg (fun q => hf2 q.1)]
      obtain ⟨u1, ⟨u2, u3, u4, u5, u6, u7⟩, ⟨fc2, v1, v2, v3⟩, u8⟩ := hc.2.2.2
      have efc : fc2 = fc := by
        have : gI S 32 (am A) = nI fc := by rw [← k2, g1, gI_sI, if_neg (fun q => absurd q.1 (by decide))]
        rw [v2] at this
        exact (nI_eq (by omega) (by omega)).mp this
      refine ⟨fun q => by rw [rj 2 (by omega)]; exact u1 q, ⟨?_, (iN 33 (by decide) (by decide)).trans u3, (iN 37 (by decide) (by decide)).trans u4, (iN 38 (by decide) (by decide)).trans u5, (iN 35 (by decide) (by decide)).trans u6, (iN 34 (by decide) (by decide)).trans u7⟩, ⟨fc2, v1, (iN 32 (by decide) (by decide)).trans v2, fun k Z hk => ?_⟩, by rw [rj 4 (by omega), rj 5 (by omega)]; exact u8⟩
      · show gI S3 31 (am A) = nI X.1.2.2.dropLast.length
        rw [e3, q1'']
        exact i31
      · rw [rj 1 (by omega)]
        exact v3 k Z (e4 k Z hk).1
    · rw [q1'']
      show gI S2 30 (am A) = 0
      rw [g2, gI_sI, if_neg (fun q => absurd q.1 (by decide)), g1]
      exact th_at
theorem x_undo (h : wR G S T A N X) (hN : N + 40000 ≤ 2 ^ 30) : tStep G T A N X ["java/lang/IllegalStateException"] (fun res S1 T1 => f_X5_undo G (ax A) S = some (res, S1) ∧ T1 = T) (fun S' z S2 => f_X6_undo G (am A) S' = some (z, S2)) := by
  obtain ⟨hc, hW⟩ := h
  by_cases q : X.1.2.2 = []
  · refine ⟨_, S, T, X, ⟨(c_undo hc hW).1 q, rfl⟩, hW.mono (by omega), hc, fun S1' hc' => ?_⟩
    obtain ⟨S2, g1, g2, gk, g3⟩ := (q_undo hc' hW).1 q
    exact ⟨0, S2, g1, g2, gk, 0, rfl, g3⟩
  · obtain ⟨M, l, e1, e2, e3, e4⟩ := last_of q
    obtain ⟨⟨v, S1⟩, g1, g2, g3⟩ := (c_undo hc hW).2 M l e1 e2 e3 e4
    have g2 : v = .inr (nI l) := g2
    refine ⟨v, S1, T, xUndo X M, ⟨g1, rfl⟩, ?_, g3, fun S1' hc' => ?_⟩
    · obtain ⟨w1, w2, ⟨w3, w3'⟩, w4⟩ := hW
      refine ⟨(w3' M (List.mem_of_getElem? e2)).mono (by omega), fun q => (w2 q).mono (by omega), ⟨?_, fun Z hz => ?_⟩, w4⟩
      · show X.1.2.2.dropLast.length ≤ 8
        omega
      · obtain ⟨k, hk⟩ := List.getElem?_of_mem hz
        exact (w3' Z (List.mem_of_getElem? (e4 k Z hk).1)).mono (by omega)
    · obtain ⟨⟨b, S2⟩, k1, k2, k3, kk, k4⟩ := (q_undo hc' hW).2 M l e1 e2 e3 e4
      refine ⟨b, S2, k1, k3, kk, ?_⟩
      rw [g2]
      exact ⟨k4, k2⟩
-- save
def xSave (X : mX) : mX := ((X.1.1, X.1.1, X.1.2.2), (true, X.2.1.2), X.2.2)
theorem x_save (h : wR G S T A N X) (hN : N + 40000 ≤ 2 ^ 30) : tStep G T A N X [] (fun res S1 T1 => ∃ v, res = .inr v ∧ f_X5_save G (ax A) S = some (v, S1) ∧ T1 = T) (fun S' z S2 => f_X6_save G (am A) S' = some (z, S2)) := by
  obtain ⟨hc, hW⟩ := h
  obtain ⟨h1, ⟨h2, h3⟩, h4, h5⟩ := hc
  have hW' := hW
  obtain ⟨w1, w2, w3, w4⟩ := hW
  have hA : wp (f_X5_save G (ax A) S) (fun y => y.1 = X.1.1.1 0 ∧ wC G y.2 T A (xSave X) X) := by
    unfold f_X5_save
    refine wp_gd h1.1.1 (wp_gb h1.1.2.2.1 (wp_gb h1.1.2.1 (wp_gd (h1.2.1.1 1 (by decide)).1.1 ?_)))
    refine wp_gbw (c_copy (h1.2.1.1 1 (by decide)) (h1.2.1.1 0 (by decide)) (h1.sep (by decide) (by decide) (by decide)) w1.len h2) ?_
    rintro S1 ⟨r1, f1⟩
    refine wp_glt (fun S2 e2 => ?_)
    have f2 := (gFr.rfl' (S := S1)).I' e2 (List.mem_cons_self (a := ax A) (l := []))
    have s2 := (h1.fr f1).fr f2
    have hx : ∀ b, b < 11 → ∀ a ∈ bFp (aB A b), a ∉ [ax A] := fun b hb a ha q => (h1.2.2.2.1 b hb).1 (by rw [List.mem_singleton.mp q] at ha; exact ha)
    have r0 := (h2.fr f1 (h1.sep (by decide) (by decide) (by decide))).fr f2 (hx 0 (by decide))
    refine wp_gb s2.1.2.1 (wp_gd (h1.2.1.1 0 (by decide)).1.1 (wp_ret ⟨r0.1.1, s2, ⟨r0, ?_⟩, ?_, ?_⟩))
    · obtain ⟨o1, ⟨o2, o3, o4, o5⟩, ⟨p, p1, p2, p3, p4⟩, o6⟩ := h3
      have m := (f1.1 _ (h1.2.2.2.1 1 (by decide)).1).1
      have iN : ∀ f, f ≠ 21 → gI S2 f (ax A) = gI S f (ax A) := fun f hf => by rw [e2, gI_sI, if_neg (fun q => hf q.1), m]
      refine ⟨fun _ => r1.fr f2 (hx 1 (by decide)), ⟨(iN 20 (by decide)).trans o2, by rw [e2, gI_sI, if_pos ⟨rfl, rfl⟩]; rfl, (iN 22 (by decide)).trans o4, (iN 23 (by decide)).trans o5⟩, ⟨p, p1, p2, fun i hi => (f2.2.2 _ _).trans ((f1.2.2 _ _).trans (p3 i hi)), fun k M hk => ?_⟩, o6⟩
      have hk8 := (p4 k M hk).1
      have hp := p1 k (by omega)
      exact ⟨hk8, ((p4 k M hk).2.fr f1 (h1.sep hp.2 (by decide) (by omega))).fr f2 (hx _ hp.2)⟩
    · have e : gr S2 (ar A 0) = gr S (ar A 0) := funext fun i => by rw [e2]; exact (f1.1 _ ((h1.2.2.2.1 1 (by decide)).2.2.2.2 0 (by decide))).2 i
      rw [e]
      exact h4
    · refine h5.ext (fun f _ => ?_) (fun j hj => funext fun i => by rw [e2]; exact (f1.1 _ ((h1.2.2.2.1 1 (by decide)).2.2.2.2 j (by omega))).2 i)
      rw [e2, gI_sI, if_neg (fun q => h1.2.2.2.2.1.1 q.2.symm)]
      exact (f1.1 _ (h1.2.2.2.1 1 (by decide)).2.1).1 f
  obtain ⟨⟨v, S1⟩, a1, a2, a3⟩ := hA
  refine ⟨.inr v, S1, T, xSave X, ⟨v, rfl, a1, rfl⟩, ?_, a3, fun S1' hc' => ?_⟩
  · obtain ⟨w3a, w3b⟩ := w3
    exact ⟨w1.mono (by omega), fun _ => w1.mono (by omega), ⟨w3a, fun M hm => (w3b M hm).mono (by omega)⟩, w4⟩
  · have hB : wp (f_X6_save G (am A) S1') (fun y => y.1 = X.1.1.1 0 ∧ wC G y.2 T A (xSave X) (xSave X) ∧ oK A S1' y.2 ∧ gI y.2 30 (am A) = 0) := by
      unfold f_X6_save
      refine wp_gd hc'.m.1 (wp_glt (fun S2 e2 => ?_))
      have c2 := hc'.I e2 (Or.inl rfl)
      refine wp_mono (q_save_L gN 0 S2 c2.m (by decide) (by rw [gN_e]; decide)) ?_
      rintro ⟨v', S3⟩ ⟨f', q1, q2⟩
      have q1' : v' = gr S2 (ar A 0) 0 := congrArg Prod.fst q1
      have q1'' : S3 = sI (srow S2 (ar A 2) f') 33 (am A) 1 := congrArg Prod.snd q1
      have n02 : ar A 0 ≠ ar A 2 := c2.m.2.2 0 2 (by decide) (by decide) (by decide)
      have f2 : gFr [am A, ar A 2] S2 S3 := by rw [q1'']; exact ((gFr.rfl' (S := S2)).row (by simp)).I List.mem_cons_self
      have hin : ∀ a ∈ [am A, ar A 2], a = am A ∨ ∃ j, j < 7 ∧ a = ar A j := fun a ha => by
        rcases List.mem_cons.mp ha with z | z
        · exact Or.inl z
        · exact Or.inr ⟨2, by decide, List.mem_singleton.mp z⟩
      refine ⟨q1'.trans (c2.2.2.1.1 0 (by decide)), c2.ref (Z := xSave X) f2 hin ?_ ?_, oK.trans (by rw [e2]; exact oK.I) (oK.ref c2.1 f2 hin), ?_⟩
      · have e : gr S3 (ar A 0) = gr S2 (ar A 0) := by rw [q1'']; exact gr_other _ n02
        rw [e]
        exact c2.2.2.1
      · obtain ⟨u1, ⟨u2, u3, u4, u5, u6, u7⟩, u8, u9⟩ := c2.2.2.2
        have rj : ∀ j, j = 1 ∨ j = 4 ∨ j = 5 → gr S3 (ar A j) = gr S2 (ar A j) := fun j hj => by
          rw [q1'']
          exact gr_other _ (c2.m.2.2 j 2 (by omega) (by decide) (by omega))
        have iN : ∀ f, f ≠ 33 → gI S3 f (am A) = gI S2 f (am A) := fun f hf => by rw [q1'', gI_sI, if_neg (fun q => hf q.1)]; rfl
        have r2 : gr S3 (ar A 2) = f' := by rw [q1'']; exact gr_same _ _ _
        have i33 : gI S3 33 (am A) = gz true := by rw [q1'', gI_sI, if_pos ⟨rfl, rfl⟩]; rfl
        unfold mO
        rw [rj 1 (by omega), rj 4 (by omega), rj 5 (by omega), r2, i33, iN 31 (by decide), iN 32 (by decide), iN 34 (by decide), iN 35 (by decide), iN 37 (by decide), iN 38 (by decide)]
        refine ⟨fun _ => c2.2.2.1.cong w1.1.2 w1.lenc (fun j hj => ?_), ⟨u2, rfl, u4, u5, u6, u7⟩, u8, u9⟩
        have := q2.1 j (Nat.zero_le _) hj
        rw [Nat.zero_add] at this
        exact this
      · rw [q1'', gI_sI, if_neg (fun q => absurd q.1 (by decide))]
        show gI S2 30 (am A) = 0
        rw [e2]
        exact th_at
    obtain ⟨⟨b, S2⟩, b1, b2, b3, bk, b4⟩ := hB
    refine ⟨b, S2, b1, b3, bk, b4, ?_⟩
    have a2 : v = X.1.1.1 0 := a2
    have b2 : b = X.1.1.1 0 := b2
    rw [a2, b2]
-- restore
def xRest (X : mX) : mX := ((X.1.2.1, X.1.2.1, []), X.2)
theorem x_restore (h : wR G S T A N X) (hN : N + 40000 ≤ 2 ^ 30) : tStep G T A N X ["java/lang/IllegalStateException"] (fun res S1 T1 => f_X5_restore G (ax A) S = some (res, S1) ∧ T1 = T) (fun S' z S2 => f_X6_restore G (am A) S' = some (z, S2)) := by
  obtain ⟨hc, hW⟩ := h
  have hc0 := hc
  obtain ⟨h1, ⟨h2, h3⟩, h4, h5⟩ := hc
  have hW0 := hW
  obtain ⟨w1, w2, w3, w4⟩ := hW
  obtain ⟨o1, ⟨o2, o3, o4, o5⟩, ⟨p, p1, p2, p3, p4⟩, o6⟩ := h3
  cases hh : X.2.1.1 with
  | false =>
    rw [hh] at o3
    refine ⟨.inl "java/lang/IllegalStateException", S, T, X, ⟨?_, rfl⟩, hW0.mono (by omega), hc0, fun S1' hc' => ?_⟩
    · unfold f_X5_restore
      rw [gd_i h1.1.1, o3, if_pos (show gz false = 0 from rfl)]
    · have c2 := hc'.I (S' := sI S1' 30 (am A) 0) rfl (Or.inl rfl)
      have i33 : gI (sI S1' 30 (am A) 0) 33 (am A) = gz false := by rw [← hh]; exact c2.2.2.2.2.1.2.1
      have g : f_X6_restore G (am A) S1' = some (0, sI (sI S1' 30 (am A) 0) 30 (am A) 1) := by
        unfold f_X6_restore
        rw [gd_i hc'.m.1, glt_S, i33, if_pos (show gz false = 0 from rfl), fails_eq hc'.m.1, gb2_S]
      exact ⟨_, _, g, c2.I rfl (Or.inl rfl), oK.trans oK.I oK.I, 0, rfl, th_at⟩
  | true =>
    rw [hh] at o3
    have hsp := w2 hh
    have hA : wp (f_X5_restore G (ax A) S) (fun y => y.1 = .inr (X.1.2.1.1 0) ∧ wC G y.2 T A (xRest X) X) := by
      unfold f_X5_restore
      rw [o3]
      refine wp_gd h1.1.1 (wp_f (by decide) (wp_gb h1.1.2.1 (wp_gb h1.1.2.2.1 (wp_gd (h1.2.1.1 0 (by decide)).1.1 ?_))))
      refine wp_gbw (c_copy (h1.2.1.1 0 (by decide)) (h1.2.1.1 1 (by decide)) (h1.sep (by decide) (by decide) (by decide)) hsp.len (o1 hh)) ?_
      rintro S1 ⟨r1, f1⟩
      refine wp_glt (fun S2 e2 => ?_)
      have f2 := (gFr.rfl' (S := S1)).I' e2 (List.mem_cons_self (a := ax A) (l := []))
      have s2 := (h1.fr f1).fr f2
      have hx : ∀ b, b < 11 → ∀ a ∈ bFp (aB A b), a ∉ [ax A] := fun b hb a ha q => (h1.2.2.2.1 b hb).1 (by rw [List.mem_singleton.mp q] at ha; exact ha)
      have r0 := r1.fr f2 (hx 0 (by decide))
      have m := (f1.1 _ (h1.2.2.2.1 0 (by decide)).1).1
      have iN : ∀ f, f ≠ 20 → gI S2 f (ax A) = gI S f (ax A) := fun f hf => by rw [e2, gI_sI, if_neg (fun q => hf q.1), m]
      refine wp_gb s2.1.2.1 (wp_gd (h1.2.1.1 0 (by decide)).1.1 (wp_ret ⟨congrArg Sum.inr r0.1.1, s2, ⟨r0, ?_⟩, ?_, ?_⟩))
      · refine ⟨fun q => ((o1 q).fr f1 (h1.sep (by decide) (by decide) (by decide))).fr f2 (hx 1 (by decide)), ⟨by rw [e2, gI_sI, if_pos ⟨rfl, rfl⟩]; rfl, ((iN 21 (by decide)).trans o3).trans (by rw [← hh]; rfl), (iN 22 (by decide)).trans o4, (iN 23 (by decide)).trans o5⟩, ⟨p, p1, p2, fun i hi => (f2.2.2 _ _).trans ((f1.2.2 _ _).trans (p3 i hi)), fun k M hk => by cases hk⟩, o6⟩
      · have e : gr S2 (ar A 0) = gr S (ar A 0) := funext fun i => by rw [e2]; exact (f1.1 _ ((h1.2.2.2.1 0 (by decide)).2.2.2.2 0 (by decide))).2 i
        rw [e]
        exact h4
      · refine h5.ext (fun f _ => ?_) (fun j hj => funext fun i => by rw [e2]; exact (f1.1 _ ((h1.2.2.2.1 0 (by decide)).2.2.2.2 j (by omega))).2 i)
        rw [e2, gI_sI, if_neg (fun q => h1.2.2.2.2.1.1 q.2.symm)]
        exact (f1.1 _ (h1.2.2.2.1 0 (by decide)).2.1).1 f
    obtain ⟨⟨v, S1⟩, a1, a2, a3⟩ := hA
    have a2 : v = .inr (X.1.2.1.1 0) := a2
    refine ⟨v, S1, T, xRest X, ⟨a1, rfl⟩, ?_, a3, fun S1' hc' => ?_⟩
    · exact ⟨hsp.mono (by omega), fun _ => hsp.mono (by omega), ⟨Nat.zero_le _, fun M hm => by cases hm⟩, w4⟩
    · have hB : wp (f_X6_restore G (am A) S1') (fun y => y.1 = X.1.2.1.1 0 ∧ wC G y.2 T A (xRest X) (xRest X) ∧ oK A S1' y.2 ∧ gI y.2 30 (am A) = 0) := by
        unfold f_X6_restore
        refine wp_gd hc'.m.1 (wp_glt (fun S2 e2 => ?_))
        have c2 := hc'.I e2 (Or.inl rfl)
        have i33 : gI S2 33 (am A) = gz true := by rw [← hh]; exact c2.2.2.2.2.1.2.1
        rw [i33]
        refine wp_f (by decide) ?_
        refine wp_mono (q_restore_L gN 0 S2 c2.m (by decide) (by rw [gN_e]; decide)) ?_
        rintro ⟨v', S3⟩ ⟨f', q1, q2⟩
        have q1' : v' = f' 0 := congrArg Prod.fst q1
        have q1'' : S3 = sI (sI (srow S2 (ar A 0) f') 31 (am A) 0) 32 (am A) 0 := congrArg Prod.snd q1
        have f2 : gFr [am A, ar A 0] S2 S3 := by rw [q1'']; exact (((gFr.rfl' (S := S2)).row (by simp)).I List.mem_cons_self).I List.mem_cons_self
        have hR : rowR f' X.1.2.1 := (c2.2.2.2.1 hh).cong hsp.1.2 hsp.lenc (fun j hj => by have := q2.1 j (Nat.zero_le _) hj; rw [Nat.zero_add] at this; exact this)
        have hin : ∀ a ∈ [am A, ar A 0], a = am A ∨ ∃ j, j < 7 ∧ a = ar A j := fun a ha => by
          rcases List.mem_cons.mp ha with z | z
          · exact Or.inl z
          · exact Or.inr ⟨0, by decide, List.mem_singleton.mp z⟩
        refine ⟨q1'.trans (hR.1 0 (by decide)), c2.ref (Z := xRest X) f2 hin ?_ ?_, oK.trans (by rw [e2]; exact oK.I) (oK.ref c2.1 f2 hin), ?_⟩
        · show rowR (gr S3 (ar A 0)) X.1.2.1
          have e : gr S3 (ar A 0) = f' := by rw [q1'']; exact gr_same _ _ _
          rw [e]
          exact hR
        · obtain ⟨u1, ⟨u2, u3, u4, u5, u6, u7⟩, u8, u9⟩ := c2.2.2.2
          have rj : ∀ j, j = 1 ∨ j = 2 ∨ j = 4 ∨ j = 5 → gr S3 (ar A j) = gr S2 (ar A j) := fun j hj => by
            rw [q1'']
            exact gr_other _ (c2.m.2.2 j 0 (by omega) (by decide) (by omega))
          have iN : ∀ f, f ≠ 31 → f ≠ 32 → gI S3 f (am A) = gI S2 f (am A) := fun f hf hf2 => by rw [q1'', gI_sI, if_neg (fun q => hf2 q.1), gI_sI, if_neg (fun q => hf q.1)]; rfl
          have i31 : gI S3 31 (am A) = 0 := by rw [q1'', gI_sI, if_neg (fun q => absurd q.1 (by decide)), gI_sI, if_pos ⟨rfl, rfl⟩]
          have i32 : gI S3 32 (am A) = 0 := by rw [q1'', gI_sI, if_pos ⟨rfl, rfl⟩]
          unfold mO
          rw [rj 1 (by omega), rj 2 (by omega), rj 4 (by omega), rj 5 (by omega), i31, i32, iN 33 (by decide) (by decide), iN 34 (by decide) (by decide), iN 35 (by decide) (by decide), iN 37 (by decide) (by decide), iN 38 (by decide) (by decide)]
          exact ⟨u1, ⟨rfl, u3, u4, u5, u6, u7⟩, ⟨0, by decide, rfl, fun k M hk => by cases hk⟩, u9⟩
        · rw [q1'', gI_sI, if_neg (fun q => absurd q.1 (by decide)), gI_sI, if_neg (fun q => absurd q.1 (by decide))]
          show gI S2 30 (am A) = 0
          rw [e2]
          exact th_at
      obtain ⟨⟨b, S2⟩, b1, b2, b3, bk, b4⟩ := hB
      refine ⟨b, S2, b1, b3, bk, ?_⟩
      rw [a2]
      exact ⟨b4, b2⟩
end DA
