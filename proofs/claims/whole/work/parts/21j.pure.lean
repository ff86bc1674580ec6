/-! both sides at one model: changes, undo, snapshot -/
def wC (G : gG) (S : gS) (T : gT) (A : aW) (X Y : mX) : Prop := wSh G S A ∧ (bR S (aB A 0) X.1.1 ∧ cO S T A X.1.2.1 X.1.2.2 X.2.1.1 X.2.1.2.1 X.2.1.2.2 X.2.2.1 X.2.2.2) ∧ rowR (gr S (ar A 0)) Y.1.1 ∧ mO S A Y.1.2.1 Y.1.2.2 Y.2.1.1 Y.2.1.2.1 Y.2.1.2.2 Y.2.2.1 Y.2.2.2
def wX (N : Nat) (X : mX) : Prop := wW N X.1.1 X.1.2.1 X.1.2.2 X.2.1.1 X.2.1.2.1 X.2.1.2.2 X.2.2.1 X.2.2.2
section CW
variable {G : gG} {S : gS} {T : gT} {A : aW} {N : Nat} {X Y : mX}
theorem wC.out {S' : gS} (h : wC G S T A X Y) (e : gFr [ao A, aoD A] S S') : wC G S' T A X Y := by
  obtain ⟨h1, ⟨h2, h3⟩, h4, h5⟩ := h
  obtain ⟨y1, y2, y3, y4, -⟩ := h1.2.2.2.2.2.2.2.2.2
  have hx : ax A ∉ [ao A, aoD A] := by simp [y1, y2]
  have hm : am A ∉ [ao A, aoD A] := by simp [y3, y4]
  have hb : ∀ b, b < 11 → ∀ a ∈ bFp (aB A b), a ∉ [ao A, aoD A] := fun b hb a ha q => by
    have z := h1.2.2.2.1 b hb
    rcases List.mem_cons.mp q with q | q
    · exact z.2.2.1 (q ▸ ha)
    · exact z.2.2.2.1 ((List.mem_singleton.mp q) ▸ ha)
  have hr : ∀ j, j < 7 → ar A j ∉ [ao A, aoD A] := fun j hj q => by
    have z := h1.2.2.2.2.1.2.2 j hj
    rcases List.mem_cons.mp q with q | q
    · exact z.1 q
    · exact z.2 (List.mem_singleton.mp q)
  refine ⟨h1.fr e, ⟨h2.fr e (hb 0 (by decide)), h3.fh e hx (fun b _ h => hb b h)⟩, ?_, h5.fr e hm hr⟩
  have : gr S' (ar A 0) = gr S (ar A 0) := funext fun i => (e.1 _ (hr 0 (by decide))).2 i
  rw [this]
  exact h4
/-- what the reference rewrites leaves the class alone -/
theorem wC.ref {S' : gS} (h : wC G S T A X Y) {Xs : List Nat} (e : gFr Xs S S') (hs : ∀ a ∈ Xs, a = am A ∨ ∃ j, j < 7 ∧ a = ar A j) {Z : mX} (hR : rowR (gr S' (ar A 0)) Z.1.1) (hO : mO S' A Z.1.2.1 Z.1.2.2 Z.2.1.1 Z.2.1.2.1 Z.2.1.2.2 Z.2.2.1 Z.2.2.2) : wC G S' T A X Z := by
  obtain ⟨h1, ⟨h2, h3⟩, -, -⟩ := h
  have hxr : ∀ j, j < 7 → ax A ≠ ar A j := fun j hj => (h1.2.2.2.2.2.2.2.2.2.2.2.2.2 j hj).symm
  have hb : ∀ b, b < 11 → ∀ a ∈ bFp (aB A b), a ∉ Xs := fun b hb a ha q => by
    have z := h1.2.2.2.1 b hb
    rcases hs a q with q | ⟨j, hj, q⟩
    · exact z.2.1 (q ▸ ha)
    · exact z.2.2.2.2 j hj (q ▸ ha)
  refine ⟨h1.fr e, ⟨h2.fr e (hb 0 (by decide)), h3.fh e (fun q => ?_) (fun b _ h => hb b h)⟩, hR, hO⟩
  rcases hs _ q with q | ⟨j, hj, q⟩
  · exact h1.2.2.2.2.1.1 q
  · exact hxr j hj q
/-- the exception of a refusal -/
def mEx (e : Nat) : String := if e = 1 then "java/lang/IndexOutOfBoundsException" else if e = 2 then "java/lang/IllegalArgumentException" else "java/lang/IllegalStateException"
theorem mNot_lt (M : mB) (k : Nat) (a b c d : Int32) : mNot M k a b c d < 4 := by
  unfold mNot mFor
  repeat' split
  all_goals decide
def xChg (X : mX) (M : mB) : mX := ((M, X.1.2.1, mPush X.1.2.2 X.1.1), X.2)
theorem c_change (h : wC G S T A X Y) (hW : wX N X) (hN : N + 640 ≤ 2 ^ 30) {k : Nat} (hk : k < 8) (a b c d : Int32) : (mNot X.1.1 k a b c d ≠ 0 → f_X5_change G (ax A) k a b c d S = some (.inl (mEx (mNot X.1.1 k a b c d)), S)) ∧ (mNot X.1.1 k a b c d = 0 → wp (f_X5_change G (ax A) k a b c d S) (fun y => y.1 = .inr (mDo X.1.1 k a b c d).1 ∧ wC G y.2 T A (xChg X (mDo X.1.1 k a b c d).2) Y)) := by
  obtain ⟨h1, ⟨h2, h3⟩, h4, h5⟩ := h
  obtain ⟨w1, w2, ⟨w3, w3'⟩, w4⟩ := hW
  have hm : am A ∉ [ax A] := by simp [h1.2.2.2.2.1.1.symm]
  have hxr : ∀ j, j < 7 → ar A j ∉ [ax A] := fun j hj => by simp [h1.2.2.2.2.2.2.2.2.2.2.2.2.2 j hj]
  have hnot := c_not h1 h2 w1 hk a b c d
  have hlt := mNot_lt X.1.1 k a b c d
  constructor
  · intro hne
    unfold f_X5_change
    rw [gd_i h1.1.1, hnot, gb_S]
    unfold f_X5_raise mEx
    rw [gd_i hlt, gd_i (by decide), gd_i (by decide), gd_i (by decide)]
    generalize hq : mNot X.1.1 k a b c d = q at *
    have hq' : q = 1 ∨ q = 2 ∨ q = 3 := by omega
    rcases hq' with rfl | rfl | rfl <;> rfl
  · intro h0
    unfold f_X5_change
    refine wp_gd h1.1.1 (wp_gb hnot (wp_gbx1 (a := ()) ?_ ?_))
    · unfold f_X5_raise
      rw [h0, gd_i (by decide), gd_i (by decide), if_neg (by decide), gd_i (by decide), if_neg (by decide), gd_i (by decide), if_neg (by decide)]
    · refine wp_gbw (c_keep h1 h2 w1 h3 w3) ?_
      rintro S1 ⟨r1, r2, r3, b1, hb1, hb2, f1⟩
      have s1 := h1.fr f1
      refine wp_gb2w (c_do s1 r1 w1 hN hk h0) ?_
      rintro v S2 ⟨v1, r4, f2⟩
      have s2 := s1.fr f2
      have hb0 : ∀ b, 1 ≤ b → b < 11 → ∀ a ∈ bFp (aB A b), a ∉ bFp (aB A 0) := fun b q1 q2 => h1.sep q2 (by decide) (by omega)
      have r5 := r2.fh f2 (h1.2.2.2.1 0 (by decide)).1 hb0
      have r6 : ∃ p : Nat → Nat, (∀ i, i < 9 → 2 ≤ p i ∧ p i < 11) ∧ (∀ i j, i < 9 → j < 9 → i ≠ j → p i ≠ p j) ∧ (∀ i, i < 9 → gq S2 (ah A) i = some (aB A (p i)).1) ∧ (∀ (k : Nat) (M : mB), X.1.2.2[k]? = some M → k < 8 ∧ bR S2 (aB A (p k)) M) ∧ bR S2 (aB A (p X.1.2.2.length)) X.1.1 := by
        obtain ⟨p, p1, p2, p3, p4, p5⟩ := r3
        have hp := p1 X.1.2.2.length (by omega)
        refine ⟨p, p1, p2, fun i hi => (f2.2.2 _ _).trans (p3 i hi), fun j M hj => ?_, p5.fr f2 (hb0 _ (by omega) hp.2)⟩
        have hj1 := (p4 j M hj).1
        have hp := p1 j (by omega)
        exact ⟨hj1, (p4 j M hj).2.fr f2 (hb0 _ (by omega) hp.2)⟩
      refine wp_gbw (c_countC s2 r5 w3 r6) ?_
      rintro S3 ⟨r7, f3⟩
      refine wp_ret ⟨congrArg Sum.inr v1, s2.fh f3, ⟨r4.fh f3 (fun a ha q => (h1.2.2.2.1 0 (by decide)).1 (by rw [List.mem_singleton.mp q] at ha; exact ha)), r7⟩, ?_, ?_⟩
      · have e1 : gr S3 (ar A 0) = gr S (ar A 0) := funext fun i => (((f3.1 _ (hxr 0 (by decide))).2 i).trans ((f2.1 _ ((h1.2.2.2.1 0 (by decide)).2.2.2.2 0 (by decide))).2 i)).trans ((f1.1 _ ((h1.2.2.2.1 b1 hb2).2.2.2.2 0 (by decide))).2 i)
        rw [e1]
        exact h4
      · refine h5.ext (fun f _ => (((f3.1 _ hm).1 f).trans ((f2.1 _ (h1.2.2.2.1 0 (by decide)).2.1).1 f)).trans ((f1.1 _ (h1.2.2.2.1 b1 hb2).2.1).1 f)) (fun j hj => funext fun i => (((f3.1 _ (hxr j (by omega))).2 i).trans ((f2.1 _ ((h1.2.2.2.1 0 (by decide)).2.2.2.2 j (by omega))).2 i)).trans ((f1.1 _ ((h1.2.2.2.1 b1 hb2).2.2.2.2 j (by omega))).2 i))
end CW
