/-! the reference: what it remembers; what it refuses -/
section CX
variable {G : gG} {S : gS} {T : gT} {A : aW} {N : Nat} {X Y : mX} {now sp : mB} {us : List mB} {has : Bool} {er fa : Int32} {tx ou : List Nat}
theorem wC.m (h : wC G S T A X Y) : mSh G S (am A) (ar A) := h.1.2.2.1
theorem bW.lenc {M : mB} (hW : bW N M) : ∀ i, i < mc M → (M.2 i).2.length ≤ 20 := fun i hi => (hW.2.2.2.1 i hi).cap
/-- a row of the undo rows is written, and counted -/
theorem q_keeps (h : mSh G S (am A) (ar A)) (hO : mO S A sp us has er fa tx ou) (hl : us.length ≤ 8) {M : mB} (hW : bW N M) (hw : ∀ M ∈ us, bW N M) (hB : rowR (gr S (ar A 3)) M) : wp (f_X6_keeps G (am A) S) (fun S' => mO S' A sp (mPush us M) has er fa tx ou ∧ gFr [am A, ar A 1] S S' ∧ (∀ f, f ≠ 31 → f ≠ 32 → gI S' f (am A) = gI S f (am A)) ∧ ∀ j, ar A j ≠ ar A 1 → gr S' (ar A j) = gr S (ar A j)) := by
  have h6 := hW.1.2
  obtain ⟨o1, ⟨o2, o3, o4, o5, o6, o7⟩, ⟨fc, c1, c2, c3⟩, o8⟩ := hO
  have n13 : ar A 1 ≠ ar A 3 := h.2.2 1 3 (by decide) (by decide) (by decide)
  have n12 : ar A 2 ≠ ar A 1 := h.2.2 2 1 (by decide) (by decide) (by decide)
  have n14 : ar A 4 ≠ ar A 1 := h.2.2 4 1 (by decide) (by decide) (by decide)
  have n15 : ar A 5 ≠ ar A 1 := h.2.2 5 1 (by decide) (by decide) (by decide)
  -- the end, from a state whose fields 31 and 32 are known
  have fin : ∀ (S1 : gS) (fc' l : Nat) (vs : List mB), mSh G S1 (am A) (ar A) → gFr [am A, ar A 1] S S1 → (∀ f, f ≠ 31 → f ≠ 32 → gI S1 f (am A) = gI S f (am A)) → (∀ j, gr S1 (ar A j) = gr S (ar A j)) → fc' < 8 → gI S1 32 (am A) = nI fc' → gI S1 31 (am A) = nI l → l < 8 → vs.length = l → mPush us M = vs ++ [M] → (∀ (k : Nat) (Z : mB), vs[k]? = some Z → rowR (fun j => gr S (ar A 1) (176 * ((fc' + k) % 8) + j)) Z ∧ mc Z ≤ 6 ∧ ∀ i, i < mc Z → (Z.2 i).2.length ≤ 20) → wp (f_X6_keeps_L47 G (am A) gN (nI ((fc' + l) % 8)) 0 S1) (fun S' => mO S' A sp (mPush us M) has er fa tx ou ∧ gFr [am A, ar A 1] S S' ∧ (∀ f, f ≠ 31 → f ≠ 32 → gI S' f (am A) = gI S f (am A)) ∧ ∀ j, ar A j ≠ ar A 1 → gr S' (ar A j) = gr S (ar A j)) := by
    intro S1 fc' l vs s1 s2 s3 s4 s5 s6 s7 s8 s9 s10 s11
    refine wp_mono (q_keeps_L (to := (fc' + l) % 8) (by omega) gN 0 S1 s1 (by decide) (by rw [gN_e]; decide)) ?_
    rintro S' ⟨f', e1, e2⟩
    rw [s4, s4] at e2
    have f1 : gFr [am A, ar A 1] S1 S' := by
      rw [e1]
      exact ((gFr.rfl' (S := S1)).row (List.mem_cons_of_mem _ List.mem_cons_self)).I List.mem_cons_self
    have r1 : gr S' (ar A 1) = f' := by rw [e1]; exact gr_same _ _ _
    have rj : ∀ j, ar A j ≠ ar A 1 → gr S' (ar A j) = gr S (ar A j) := fun j hj => by
      rw [e1]
      exact (gr_other (S := S1) f' hj).trans (s4 j)
    have i31 : gI S' 31 (am A) = nI (l + 1) := by
      rw [e1, gI_sI, if_pos ⟨rfl, rfl⟩, s7, nI_1]
    have iN : ∀ f, f ≠ 31 → gI S' f (am A) = gI S1 f (am A) := fun f hf => by
      rw [e1, gI_sI, if_neg (fun q => hf q.1)]
      rfl
    refine ⟨⟨fun q => by rw [rj 2 n12]; exact o1 q, ⟨?_, (iN 33 (by decide)).trans ((s3 33 (by decide) (by decide)).trans o3), (iN 37 (by decide)).trans ((s3 37 (by decide) (by decide)).trans o4), (iN 38 (by decide)).trans ((s3 38 (by decide) (by decide)).trans o5), (iN 35 (by decide)).trans ((s3 35 (by decide) (by decide)).trans o6), (iN 34 (by decide)).trans ((s3 34 (by decide) (by decide)).trans o7)⟩, ⟨fc', s5, (iN 32 (by decide)).trans s6, fun k Z hk => ?_⟩, by rw [rj 5 n15, rj 4 n14]; exact o8⟩, s2.trans f1, fun f hf1 hf2 => (iN f hf1).trans (s3 f hf1 hf2), rj⟩
    · rw [i31, s10, List.length_append, s9]
      rfl
    · rw [r1]
      rw [s10] at hk
      rcases app_get hk with ⟨g1, g2⟩ | ⟨g1, g2⟩
      · obtain ⟨z1, z2, z3⟩ := s11 k Z g1
        refine z1.cong z2 z3 (fun j hj => e2.2 _ ?_)
        omega
      · rw [g2, g1, s9]
        refine hB.cong h6 hW.lenc (fun j hj => e2.1 j (Nat.zero_le _) hj)
  unfold f_X6_keeps
  refine wp_gd h.1 ?_
  rw [o2]
  have hz : ∀ (k : Nat) (Z : mB), us[k]? = some Z → rowR (fun j => gr S (ar A 1) (176 * ((fc + k) % 8) + j)) Z ∧ mc Z ≤ 6 ∧ ∀ i, i < mc Z → (Z.2 i).2.length ≤ 20 := fun k Z hk => ⟨c3 k Z hk, (hw Z (List.mem_of_getElem? hk)).1.2, (hw Z (List.mem_of_getElem? hk)).lenc⟩
  by_cases c : us.length = 8
  · refine wp_t (congrArg nI c) (wp_glt (fun S1 e1 => wp_glt (fun S2 e2 => wp_glt (fun z ez => ?_))))
    have i1 : ∀ f, f ≠ 32 → gI S1 f (am A) = gI S f (am A) := fun f hf => by rw [e1, gI_sI, if_neg (fun q => hf q.1)]
    have i2 : ∀ f, f ≠ 31 → gI S2 f (am A) = gI S1 f (am A) := fun f hf => by rw [e2, gI_sI, if_neg (fun q => hf q.1)]
    have e32 : gI S1 32 (am A) = nI ((fc + 1) % 8) := by
      rw [e1, gI_sI, if_pos ⟨rfl, rfl⟩, c2, nI_1, show (8 : Int32) = nI 8 from rfl, nI_rem (by omega) (by decide)]
    have g32 : gI S2 32 (am A) = nI ((fc + 1) % 8) := (i2 32 (by decide)).trans e32
    have g31 : gI S2 31 (am A) = nI 7 := by
      rw [e2, gI_sI, if_pos ⟨rfl, rfl⟩, i1 31 (by decide), o2, c]
      decide
    rw [g32, g31, nI_add, show (8 : Int32) = nI 8 from rfl, nI_rem (by omega) (by decide)] at ez
    subst ez
    refine fin S2 ((fc + 1) % 8) 7 us.tail (by rw [e2, e1]; exact h.I.I) (((gFr.rfl' (S := S)).I' e1 List.mem_cons_self).I' e2 List.mem_cons_self) (fun f h1 h2 => (i2 f h1).trans (i1 f h2)) (fun j => by rw [e2, e1]; rfl) (by omega) g32 g31 (by decide) (by rw [List.length_tail, c]) (by unfold mPush; rw [if_pos c]) (fun k Z hk => ?_)
    rw [List.getElem?_tail] at hk
    have := hz (k + 1) Z hk
    rw [show ((fc + 1) % 8 + k) % 8 = (fc + (k + 1)) % 8 by omega]
    exact this
  · refine wp_f (fun q => c ((nI_eq (by omega) (by decide)).mp (q : nI us.length = nI 8))) (wp_glt (fun z ez => ?_))
    rw [c2, nI_add, show (8 : Int32) = nI 8 from rfl, nI_rem (by omega) (by decide)] at ez
    subst ez
    exact fin S fc us.length us h gFr.rfl' (fun _ _ _ => rfl) (fun _ => rfl) c1 c2 o2 (by omega) rfl (by unfold mPush; rw [if_neg c]) hz
theorem q_copies (h : mSh G S (am A) (ar A)) {M : mB} (hW : bW N M) (hR : rowR (gr S (ar A 0)) M) : wp (f_X6_copies G (am A) S) (fun S' => ∃ f', S' = srow S (ar A 3) f' ∧ rowR f' M) := by
  refine wp_mono (q_copies_L gN 0 S h (by decide) (by rw [gN_e]; decide)) ?_
  rintro S' ⟨f', e1, e2⟩
  exact ⟨f', e1, hR.cong hW.1.2 hW.lenc (fun j hj => by have := e2.1 j (Nat.zero_le _) hj; rw [Nat.zero_add] at this; exact this)⟩
theorem q_remembers (h : mSh G S (am A) (ar A)) (hO : mO S A sp us has er fa tx ou) (hl : us.length ≤ 8) {M : mB} (hW : bW N M) (hw : ∀ M ∈ us, bW N M) (hR : rowR (gr S (ar A 0)) M) : wp (f_X6_remembers G (am A) S) (fun S' => rowR (gr S' (ar A 0)) M ∧ mO S' A sp (mPush us M) has er fa tx ou ∧ gI S' 30 (am A) = gI S 30 (am A) ∧ gFr [am A, ar A 1, ar A 3] S S') := by
  unfold f_X6_remembers
  refine wp_gd h.1 (wp_gbw (q_copies h hW hR) ?_)
  rintro S1 ⟨f', e1, e2⟩
  have n03 : ar A 0 ≠ ar A 3 := h.2.2 0 3 (by decide) (by decide) (by decide)
  have n01 : ar A 0 ≠ ar A 1 := h.2.2 0 1 (by decide) (by decide) (by decide)
  have h1 : mSh G S1 (am A) (ar A) := by rw [e1]; exact h.row
  have f1 : gFr [am A, ar A 1, ar A 3] S S1 := (gFr.rfl' (S := S)).row' e1 (by simp)
  have hO1 : mO S1 A sp us has er fa tx ou := hO.ext (fun f _ => by rw [e1]; rfl) (fun j hj => by rw [e1]; exact gr_other _ (h.2.2 j 3 (by omega) (by decide) (by omega)))
  refine wp_gbw (q_keeps h1 hO1 hl hW hw (by rw [e1, gr_same]; exact e2)) ?_
  rintro S2 ⟨o1, f2, f3, f4⟩
  refine wp_ret ⟨?_, o1, (f3 30 (by decide) (by decide)).trans (by rw [e1]; rfl), f1.trans (f2.mono (fun a ha => by
    rcases List.mem_cons.mp ha with q | q
    · rw [q]; exact List.mem_cons_self
    · rw [List.mem_singleton.mp q]; simp))⟩
  rw [f4 0 n01, e1, gr_other _ n03]
  exact hR
end CX
