/-! the class: undo, snapshot, changes -/
/-- the undo rows with one more -/
def mPush (us : List mB) (M : mB) : List mB := if us.length = 8 then us.tail ++ [M] else us ++ [M]
theorem mPush_len {us : List mB} {M : mB} (h : us.length ≤ 8) : (mPush us M).length ≤ 8 := by
  unfold mPush
  by_cases c : us.length = 8
  · rw [if_pos c, List.length_append, List.length_tail, c]
    exact Nat.le_refl _
  · rw [if_neg c, List.length_append]
    show us.length + 1 ≤ 8
    omega
theorem mPush_mem {us : List mB} {M X : mB} (h : X ∈ mPush us M) : X ∈ us ∨ X = M := by
  unfold mPush at h
  by_cases c : us.length = 8
  · rw [if_pos c] at h
    rcases List.mem_append.mp h with q | q
    · exact Or.inl (List.mem_of_mem_tail q)
    · exact Or.inr (List.mem_singleton.mp q)
  · rw [if_neg c] at h
    rcases List.mem_append.mp h with q | q
    · exact Or.inl q
    · exact Or.inr (List.mem_singleton.mp q)
theorem app_get {us : List mB} {M X : mB} {k : Nat} (h : (us ++ [M])[k]? = some X) : us[k]? = some X ∧ k < us.length ∨ k = us.length ∧ X = M := by
  by_cases c : k < us.length
  · rw [List.getElem?_append_left c] at h
    exact Or.inl ⟨h, c⟩
  · rw [List.getElem?_append_right (by omega)] at h
    have hk := (List.getElem?_eq_some_iff.mp h).1
    have e : k - us.length = 0 := by
      have : k - us.length < 1 := hk
      omega
    rw [e] at h
    cases h
    exact Or.inr ⟨by omega, rfl⟩
section CT
variable {G : gG} {S : gS} {T : gT} {A : aW} {N : Nat} {now sp : mB} {us : List mB} {has : Bool} {er fa : Int32} {tx ou : List Nat}
theorem wSh.sep (h : wSh G S A) {b c : Nat} (hb : b < 11) (hc : c < 11) (hn : b ≠ c) : ∀ a ∈ bFp (aB A b), a ∉ bFp (aB A c) := h.2.1.2.1 b c hb hc hn
theorem bW.len {M : mB} (hW : bW N M) : ∀ i, i < 6 → (M.2 i).2.length ≤ 20 := fun i _ => by
  by_cases q : i < mc M
  · exact (hW.2.2.2.1 i q).cap
  · rw [hW.2.2.2.2.1 i (by omega)]
    exact Nat.zero_le _
/-- a book kept in the row behind the undo rows -/
theorem c_keep (h : wSh G S A) (hR : bR S (aB A 0) now) (hW : bW N now) (hC : cO S T A sp us has er fa tx ou) (hl : us.length ≤ 8) : wp (f_X5_keepForUndo G (ax A) S) (fun S' => bR S' (aB A 0) now ∧ cO S' T A sp us has er fa tx ou ∧ (∃ p : Nat → Nat, (∀ i, i < 9 → 2 ≤ p i ∧ p i < 11) ∧ (∀ i j, i < 9 → j < 9 → i ≠ j → p i ≠ p j) ∧ (∀ i, i < 9 → gq S' (ah A) i = some (aB A (p i)).1) ∧ (∀ (k : Nat) (M : mB), us[k]? = some M → k < 8 ∧ bR S' (aB A (p k)) M) ∧ bR S' (aB A (p us.length)) now) ∧ ∃ b, 2 ≤ b ∧ b < 11 ∧ gFr (bFp (aB A b)) S S') := by
  obtain ⟨s1, s2, s3, s4, s5, s6, s7, s8, s9⟩ := h.1
  obtain ⟨h1, ⟨h2, h3, h4, h5⟩, ⟨p, p1, p2, p3, p4⟩, h6⟩ := hC
  unfold f_X5_keepForUndo
  refine wp_gd s1 ?_
  rw [h2]
  refine wp_f (nI_pos (by omega)) (wp_gb s4 (wp_gd s5 ?_))
  rw [s6, show Int32.ofNat 9 = nI 9 from rfl]
  refine wp_f (nI_ge (by omega) (by decide)) (wp_gb s4 (wp_gd s5 ?_))
  rw [s6, nI_clamp (by omega)]
  have hp := p1 us.length (by omega)
  refine wp_gd (vp_nI (by omega) (by decide)) (wp_gb (p3 us.length (by omega)) (wp_gb s2 (wp_gd (h.2.1.1 _ hp.2).1.1 ?_)))
  refine wp_gbw (c_copy (h.2.1.1 _ hp.2) (h.2.1.1 0 (by decide)) (h.sep (by decide) hp.2 (by omega)) hW.len hR) ?_
  rintro S' ⟨r1, f1⟩
  have hfr : cO S' T A sp us has er fa tx ou → True := fun _ => trivial
  have hus : ∀ (k : Nat) (M : mB), us[k]? = some M → k < 8 ∧ bR S' (aB A (p k)) M := fun k M hk => by
    have hkl := (List.getElem?_eq_some_iff.mp hk).1
    exact ⟨by omega, (p4 k M hk).2.fr f1 (h.sep (p1 k (by omega)).2 hp.2 (p2 k us.length (by omega) (by omega) (by omega)))⟩
  have hxb := (h.2.2.2.1 _ hp.2).1
  have m := (f1.1 _ hxb).1
  have hgq : ∀ i, i < 9 → gq S' (ah A) i = some (aB A (p i)).1 := fun i hi => (f1.2.2 _ _).trans (p3 i hi)
  refine wp_ret ⟨hR.fr f1 (h.sep (by decide) hp.2 (by omega)), ⟨fun q => (h1 q).fr f1 (h.sep (by decide) hp.2 (by omega)), ⟨(m 20).trans h2, (m 21).trans h3, (m 22).trans h4, (m 23).trans h5⟩, ⟨p, p1, p2, hgq, hus⟩, h6⟩, ⟨p, p1, p2, hgq, hus, r1⟩, p us.length, hp.1, hp.2, f1⟩
theorem gFh.sq {X : List Nat} {S S1 : gS} {i : Nat} {v : Option Nat} (h : gFh A X S S1) : gFh A X S (sq S1 (ah A) i v) := h.trans ⟨fun _ _ => ⟨fun _ => rfl, fun _ => rfl⟩, fun _ _ => rfl, fun a j hn => by rw [gq_sq, if_neg (fun q => hn q.1)]⟩
theorem c_move_L {p : Nat → Nat} : ∀ (n k : Nat) (S : gS) (p : Nat → Nat), wSh G S A → 1 ≤ k → k ≤ 9 → 9 - k < n → (∀ i, i < 9 → 2 ≤ p i ∧ p i < 11) → (∀ i, i < 9 → gq S (ah A) i = some (aB A (p i)).1) → wp (f_X5_moveOldestToEnd_L2 G (ax A) n (nI k) S) (fun S' => gFh A [] S S' ∧ (∀ i, i < 9 → gq S' (ah A) i = some (aB A (if i + 1 < k then p i else if i < 8 then p (i + 1) else p (k - 1))).1)) := by
  intro n
  induction n with
  | zero => intro k S p _ _ _ hn; omega
  | succ n ih =>
    intro k S p h h1 hk hn p1 p3
    obtain ⟨s1, s2, s3, s4, s5, s6, s7, s8, s9⟩ := h.1
    rw [f_X5_moveOldestToEnd_L2]
    refine wp_gd s1 (wp_gb s4 (wp_gd s5 ?_))
    rw [s6, show Int32.ofNat 9 = nI 9 from rfl]
    by_cases c : 9 ≤ k
    · refine wp_t (nI_le c (by omega)) (wp_ret ⟨gFh.rfl', fun i hi => ?_⟩)
      have ek : k = 9 := by omega
      subst ek
      rw [p3 i hi]
      by_cases q : i + 1 < 9
      · rw [if_pos q]
      · rw [if_neg q, if_neg (by omega), show i = 9 - 1 by omega]
    · have ek : nI k - 1 = nI (k - 1) := by
        obtain ⟨l, rfl⟩ : ∃ l, k = l + 1 := ⟨k - 1, by omega⟩
        exact nI_pred l
      refine wp_f (nI_ge (by omega) (by decide)) (wp_gb s4 (wp_gd s5 ?_))
      rw [ek, s6, nI_clamp (show k - 1 < 2 ^ 31 by omega), nI_clamp (show k < 2 ^ 31 by omega)]
      refine wp_gd (vp_nI (by omega) (by decide)) (wp_gb (p3 (k - 1) (by omega)) (wp_gb s4 (wp_gb s4 (wp_gd s5 ?_))))
      rw [s6]
      refine wp_gd (vp_nI (by omega) (by decide)) (wp_gb (p3 k (by omega)) (wp_gd s5 ?_))
      refine wp_gd (vp_nI (by omega) (by decide)) (wp_gd (h.2.1.1 _ (p1 k (by omega)).2).1.1 (wp_glt (fun S1 e1 => ?_)))
      have g1 : gFh A [] S S1 := by rw [e1]; exact gFh.rfl'.sq
      have h1' := h.fh g1
      obtain ⟨-, -, -, z4, -⟩ := h1'.1
      refine wp_gb z4 (wp_gd s5 ?_)
      rw [s6]
      refine wp_gd (vp_nI (by omega) (by decide)) (wp_gd (h.2.1.1 _ (p1 (k - 1) (by omega)).2).1.1 (wp_glt (fun S2 e2 => wp_glt (fun z ez => ?_))))
      rw [nI_1] at ez
      subst ez
      have g2 : gFh A [] S S2 := by rw [e2]; exact g1.sq
      have hq : ∀ i, i < 9 → gq S2 (ah A) i = some (aB A (if i = k then p (k - 1) else if i = k - 1 then p k else p i)).1 := fun i hi => by
        rw [e2, gq_sq, e1, gq_sq]
        by_cases q : i = k
        · rw [if_pos ⟨rfl, q⟩, if_pos q]
        · rw [if_neg (fun z => q z.2), if_neg q]
          by_cases q2 : i = k - 1
          · rw [if_pos ⟨rfl, q2⟩, if_pos q2]
          · rw [if_neg (fun z => q2 z.2), if_neg q2]; exact p3 i hi
      refine wp_mono (ih (k + 1) S2 (fun i => if i = k then p (k - 1) else if i = k - 1 then p k else p i) (h.fh g2) (by omega) (by omega) (by omega) (fun i hi => ?_) hq) ?_
      · show 2 ≤ (if i = k then p (k - 1) else if i = k - 1 then p k else p i) ∧ _
        by_cases q : i = k
        · rw [if_pos q]; exact p1 _ (by omega)
        · rw [if_neg q]
          by_cases q2 : i = k - 1
          · rw [if_pos q2]; exact p1 _ (by omega)
          · rw [if_neg q2]; exact p1 i hi
      · rintro S' ⟨f1, f2⟩
        refine ⟨g2.trans f1, fun i hi => (f2 i hi).trans ?_⟩
        show some (aB A (if i + 1 < k + 1 then (if i = k then p (k - 1) else if i = k - 1 then p k else p i) else if i < 8 then (if i + 1 = k then p (k - 1) else if i + 1 = k - 1 then p k else p (i + 1)) else (if k + 1 - 1 = k then p (k - 1) else if k + 1 - 1 = k - 1 then p k else p (k + 1 - 1)))).1 = _
        congr 3
        by_cases q : i + 1 < k
        · rw [if_pos (show i + 1 < k + 1 by omega), if_neg (show ¬ i = k by omega), if_neg (show ¬ i = k - 1 by omega), if_pos q]
        · rw [if_neg q]
          by_cases q2 : i = k - 1
          · rw [if_pos (show i + 1 < k + 1 by omega), if_neg (show ¬ i = k by omega), if_pos q2, if_pos (show i < 8 by omega)]
            congr 1
            omega
          · rw [if_neg (show ¬ i + 1 < k + 1 by omega)]
            by_cases q3 : i < 8
            · rw [if_pos q3, if_neg (show ¬ i + 1 = k by omega), if_neg (show ¬ i + 1 = k - 1 by omega), if_pos q3]
            · rw [if_neg q3, if_pos (show k + 1 - 1 = k by omega), if_neg q3]
/-- a change is counted: the row kept becomes the newest undo row -/
theorem c_countC (h : wSh G S A) (hC : cO S T A sp us has er fa tx ou) (hl : us.length ≤ 8) {old : mB} (hk : ∃ p : Nat → Nat, (∀ i, i < 9 → 2 ≤ p i ∧ p i < 11) ∧ (∀ i j, i < 9 → j < 9 → i ≠ j → p i ≠ p j) ∧ (∀ i, i < 9 → gq S (ah A) i = some (aB A (p i)).1) ∧ (∀ (k : Nat) (M : mB), us[k]? = some M → k < 8 ∧ bR S (aB A (p k)) M) ∧ bR S (aB A (p us.length)) old) : wp (f_X5_countChange G (ax A) S) (fun S' => cO S' T A sp (mPush us old) has er fa tx ou ∧ gFh A [ax A] S S') := by
  obtain ⟨s1, s2, s3, s4, s5, s6, s7, s8, s9⟩ := h.1
  obtain ⟨h1, ⟨h2, h3, h4, h5⟩, -, h6⟩ := hC
  obtain ⟨p, p1, p2, p3, p4, p5⟩ := hk
  unfold f_X5_countChange
  refine wp_gd s1 ?_
  rw [h2]
  by_cases c : us.length = 8
  · refine wp_t (nI_le (a := 8) (by omega) (by omega)) ?_
    refine wp_gbw (c_move_L (p := p) gN 1 S p h (by decide) (by decide) (by rw [gN_e]; omega) p1 p3) ?_
    rintro S' ⟨f1, f2⟩
    have m := (f1.1 (ax A) (by simp)).1
    refine wp_ret ⟨⟨fun q => (h1 q).fh f1 (fun a _ => by simp), ⟨(m 20).trans (h2.trans ?_), (m 21).trans h3, (m 22).trans h4, (m 23).trans h5⟩, ⟨fun i => if i < 8 then p (i + 1) else p 0, fun i hi => ?_, fun i j hi hj hij => ?_, fun i hi => ?_, fun k M hk => ?_⟩, h6⟩, f1.mono (fun a ha => by cases ha)⟩
    · congr 1
      unfold mPush
      rw [if_pos c, List.length_append, List.length_tail, c]
      rfl
    · show 2 ≤ (if i < 8 then p (i + 1) else p 0) ∧ (if i < 8 then p (i + 1) else p 0) < 11
      by_cases q : i < 8
      · rw [if_pos q]; exact p1 _ (by omega)
      · rw [if_neg q]; exact p1 _ (by omega)
    · show (if i < 8 then p (i + 1) else p 0) ≠ (if j < 8 then p (j + 1) else p 0)
      by_cases q : i < 8
      · by_cases q2 : j < 8
        · rw [if_pos q, if_pos q2]; exact p2 _ _ (by omega) (by omega) (by omega)
        · rw [if_pos q, if_neg q2]; exact p2 _ _ (by omega) (by omega) (by omega)
      · by_cases q2 : j < 8
        · rw [if_neg q, if_pos q2]; exact p2 _ _ (by omega) (by omega) (by omega)
        · exact absurd hij (by omega)
    · rw [f2 i hi, if_neg (by omega)]
    · unfold mPush at hk
      rw [if_pos c] at hk
      show k < 8 ∧ bR S' (aB A (if k < 8 then p (k + 1) else p 0)) M
      have htl : us.tail.length = 7 := by rw [List.length_tail, c]
      rcases app_get hk with ⟨g1, g2⟩ | ⟨g1, g2⟩
      · have g3 : us[k + 1]? = some M := by rw [← g1, List.getElem?_tail]
        rw [if_pos (show k < 8 by omega)]
        exact ⟨by omega, (p4 (k + 1) M g3).2.fh f1 (fun a _ => by simp)⟩
      · rw [if_pos (show k < 8 by omega), g2]
        have : k + 1 = us.length := by omega
        rw [this]
        exact ⟨by omega, p5.fh f1 (fun a _ => by simp)⟩
  · refine wp_f (nI_ge (b := 8) (by omega) (by decide)) (wp_glt (fun S' e => wp_ret ?_))
    rw [nI_1] at e
    have f1 := (gFr.rfl' (S := S)).I' e (List.mem_cons_self (a := ax A) (l := []))
    have hx : ∀ b, b < 11 → ∀ a ∈ bFp (aB A b), a ∉ [ax A] := fun b hb a ha q => (h.2.2.2.1 b hb).1 (by rw [List.mem_singleton.mp q] at ha; exact ha)
    have e20 : gI S' 20 (ax A) = nI (us.length + 1) := by rw [e, gI_sI, if_pos ⟨rfl, rfl⟩]
    have ne : ∀ f, f ≠ 20 → gI S' f (ax A) = gI S f (ax A) := fun f hf => by rw [e, gI_sI, if_neg (fun q => hf q.1)]
    refine ⟨⟨fun q => (h1 q).fr f1 (hx 1 (by decide)), ⟨e20.trans ?_, (ne 21 (by decide)).trans h3, (ne 22 (by decide)).trans h4, (ne 23 (by decide)).trans h5⟩, ⟨p, p1, p2, fun i hi => (f1.2.2 _ _).trans (p3 i hi), fun k M hk => ?_⟩, h6⟩, f1.h⟩
    · unfold mPush
      rw [if_neg c, List.length_append]
      rfl
    · unfold mPush at hk
      rw [if_neg c] at hk
      rcases app_get hk with ⟨g1, g2⟩ | ⟨g1, g2⟩
      · exact ⟨by omega, (p4 k M g1).2.fr f1 (hx _ (p1 k (by omega)).2)⟩
      · rw [g1, g2]
        exact ⟨by omega, p5.fr f1 (hx _ (p1 us.length (by omega)).2)⟩
/-- the newest row taken back -/
theorem c_back (h : wSh G S A) (hC : cO S T A sp us has er fa tx ou) {old cur : mB} (hO : bW N old) {l : Nat} (h20 : gI S 20 (ax A) = nI l) (hl : l ≤ 8) (hk : ∃ p : Nat → Nat, (∀ i, i < 9 → 2 ≤ p i ∧ p i < 11) ∧ (∀ i, i < 9 → gq S (ah A) i = some (aB A (p i)).1) ∧ bR S (aB A (p l)) old) : wp (f_X5_takeBack G (ax A) S) (fun S' => bR S' (aB A 0) old ∧ gFr (bFp (aB A 0)) S S') := by
  obtain ⟨s1, s2, s3, s4, s5, s6, s7, s8, s9⟩ := h.1
  obtain ⟨p, p1, p3, p5⟩ := hk
  unfold f_X5_takeBack
  refine wp_gd s1 ?_
  rw [h20]
  refine wp_f (nI_pos (by omega)) (wp_gb s4 (wp_gd s5 ?_))
  rw [s6, show Int32.ofNat 9 = nI 9 from rfl]
  refine wp_f (nI_ge (by omega) (by decide)) (wp_gb s2 (wp_gb s4 (wp_gd s5 ?_)))
  rw [s6, nI_clamp (by omega)]
  have hp := p1 l (by omega)
  refine wp_gd (vp_nI (by omega) (by decide)) (wp_gb (p3 l (by omega)) (wp_gd (h.2.1.1 0 (by decide)).1.1 ?_))
  exact wp_gbw (c_copy (h.2.1.1 0 (by decide)) (h.2.1.1 _ hp.2) (h.sep hp.2 (by decide) (by omega)) hO.len p5) (fun S' q => wp_ret q)
end CT
