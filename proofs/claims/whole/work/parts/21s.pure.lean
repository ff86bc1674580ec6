/-! the line: habits, umbrellas -/
def mHt (f : Nat → Bool) : Nat → List Nat
  | 0 => []
  | k + 1 => (mHt f k ++ (if 0 < k ∧ k % 4 = 0 then [47] else [])) ++ [if f k = true then 111 else 99]
theorem mHt_len (f : Nat → Bool) : ∀ k, (mHt f k).length ≤ 2 * k := by
  intro k
  induction k with
  | zero => exact Nat.le_refl _
  | succ k ih =>
    unfold mHt
    rw [List.length_append, List.length_append]
    have : (if 0 < k ∧ k % 4 = 0 then [47] else ([] : List Nat)).length ≤ 1 := by split <;> decide
    show _ + 1 ≤ _
    omega
theorem mHt_lt (f : Nat → Bool) : ∀ k, ∀ c ∈ mHt f k, c < 128 := by
  intro k
  induction k with
  | zero => intro c hc; cases hc
  | succ k ih =>
    intro c hc
    unfold mHt at hc
    rcases List.mem_append.mp hc with hc | hc
    · rcases List.mem_append.mp hc with hc | hc
      · exact ih c hc
      · revert hc
        split
        · intro hc
          rw [List.mem_singleton.mp hc]
          decide
        · intro hc; cases hc
    · rw [List.mem_singleton.mp hc]
      split <;> decide
def mXt (f : Nat → Bool) : Nat → List Nat
  | 0 => []
  | k + 1 => mXt f k ++ (if f k = true then [48 + k] else [])
theorem mXt_len (f : Nat → Bool) : ∀ k, (mXt f k).length ≤ k := by
  intro k
  induction k with
  | zero => exact Nat.le_refl _
  | succ k ih =>
    unfold mXt
    rw [List.length_append]
    have : (if f k = true then [48 + k] else ([] : List Nat)).length ≤ 1 := by
      split
      · exact Nat.le_refl _
      · exact Nat.zero_le _
    omega
theorem mXt_lt (f : Nat → Bool) : ∀ k, k ≤ 4 → ∀ c ∈ mXt f k, c < 128 := by
  intro k
  induction k with
  | zero => intro _ c hc; cases hc
  | succ k ih =>
    intro hk c hc
    unfold mXt at hc
    rcases List.mem_append.mp hc with hc | hc
    · exact ih (by omega) c hc
    · revert hc
      split
      · intro hc
        rw [List.mem_singleton.mp hc]
        omega
      · intro hc; cases hc
section DG
variable {G : gG} {S : gS} {T : gT} {A : aW} {N : Nat} {X Y : mX}
theorem gdec1 {k : Nat} (h : k < 10) : gdec k = [48 + k] := by
  have hk : k = 0 ∨ k = 1 ∨ k = 2 ∨ k = 3 ∨ k = 4 ∨ k = 5 ∨ k = 6 ∨ k = 7 ∨ k = 8 ∨ k = 9 := by omega
  rcases hk with rfl | rfl | rfl | rfl | rfl | rfl | rfl | rfl | rfl | rfl <;> rfl
theorem c_hb1 (h : wSh G S A) {x : gUA} {U : mU} (hU : uOk G S x) (hR : uR S x U) (hW : uW N U) {tx l : List Nat} (hT : tP T A tx l) (hl : l.length < 60) {k : Nat} (hk : k < 16) {β : Type} {F : Int32 → gT → Option β} {Q : β → Prop} (hF : ∀ T', tP T' A tx (l ++ [if mHab U.2 k = true then 111 else 99]) → wp (F (nI (k + 1)) T') Q) :
    wp (gd (gis G 1 x.1) <| gb (f_X4_opensIn G x.1 (nI k) S) fun (r : Bool) => if (gz r) = 0 then (gb (tg T (at2 A)) fun (t : List Nat) => gd ((0 : Int32) ≤ 99 ∧ 99 ≤ (255 : Int32) ∧ gcap T (at2 A)) <| gd (List.length (t ++ [Int32.toNatClampNeg 99]) ≤ 70) <| glt (ts T (at2 A) (t ++ [Int32.toNatClampNeg 99])) fun (T' : gT) => glt (nI k + 1) fun (x3 : Int32) => F x3 T')
      else (gb (tg T (at2 A)) fun (t : List Nat) => gd ((0 : Int32) ≤ 111 ∧ 111 ≤ (255 : Int32) ∧ gcap T (at2 A)) <| gd (List.length (t ++ [Int32.toNatClampNeg 111]) ≤ 70) <| glt (ts T (at2 A) (t ++ [Int32.toNatClampNeg 111])) fun (T' : gT) => glt (nI k + 1) fun (x3 : Int32) => F x3 T')) Q := by
  refine wp_gd hU.1.1 (wp_gb (c_opens hU hR hW rfl hk) ?_)
  cases hb : mHab U.2 k with
  | false =>
    rw [hb, if_neg (by decide)] at hF
    refine wp_t rfl (c_putc h hT (c := 99) rfl (by decide) hl (fun T' hT' => wp_glt (fun y ey => ?_)))
    rw [ey, nI_1]
    exact hF T' hT'
  | true =>
    rw [hb, if_pos rfl] at hF
    refine wp_f (by decide) (c_putc h hT (c := 111) rfl (by decide) hl (fun T' hT' => wp_glt (fun y ey => ?_)))
    rw [ey, nI_1]
    exact hF T' hT'
theorem c_hb_L (h : wSh G S A) {x : gUA} {U : mU} (hU : uOk G S x) (hR : uR S x U) (hW : uW N U) {tx : List Nat} {a : Int32} : ∀ (n k : Nat) (T : gT), tP T A tx (mHt (mHab U.2) k) → k ≤ 16 → 16 - k < n → wp (f_X5_renderHabits_L19 G (ax A) a n x.1 (nI k) S T) (fun y => y.1 = .inr (nI (mHt (mHab U.2) 16).length) ∧ y.2.1 = S ∧ tP y.2.2 A tx (mHt (mHab U.2) 16)) := by
  have s9 := h.1.2.2.2.2.2.2.2.1
  intro n
  induction n with
  | zero => intro k T _ _ hn; omega
  | succ n ih =>
    intro k T hT hk hn
    have hl := mHt_len (mHab U.2) k
    rw [f_X5_renderHabits_L19]
    by_cases q : k = 16
    · subst q
      refine wp_t (by decide) (wp_gd h.1.1 (wp_gb s9 (wp_gb hT.2.1 (wp_ret ⟨rfl, rfl, hT⟩))))
    · have go : ∀ T', tP T' A tx (mHt (mHab U.2) (k + 1)) → wp (f_X5_renderHabits_L19 G (ax A) a n x.1 (nI (k + 1)) S T') (fun y => y.1 = .inr (nI (mHt (mHab U.2) 16).length) ∧ y.2.1 = S ∧ tP y.2.2 A tx (mHt (mHab U.2) 16)) := fun T' hT' => ih (k + 1) T' hT' (by omega) (by omega)
      unfold mHt at go
      refine wp_f (show ¬ nI 16 ≤ nI k from nI_ge (by omega) (by decide)) ?_
      by_cases q0 : k = 0
      · subst q0
        rw [if_neg (by omega), List.append_nil] at go
        exact wp_t (by decide) (wp_gd h.1.1 (wp_gb s9 (c_hb1 h hU hR hW hT (by omega) (by decide) (F := fun x3 T' => f_X5_renderHabits_L19 G (ax A) a n x.1 x3 S T') go)))
      · refine wp_f (nI_nle (by omega) (by omega)) (wp_gb (show f_X5_windOfSituation (nI k) = some (nI (k % 4)) by unfold f_X5_windOfSituation; rw [show (4 : Int32) = nI 4 from rfl, nI_rem (by omega) (by decide)]) ?_)
        by_cases q4 : k % 4 = 0
        · rw [if_pos ⟨by omega, q4⟩] at go
          refine wp_t (by rw [q4]; rfl) (wp_gd h.1.1 (wp_gb s9 (c_putc h hT (c := 47) rfl (by decide) (by omega) (fun T1 hT1 => ?_))))
          exact wp_gb s9 (c_hb1 h hU hR hW hT1 (by rw [List.length_append]; show _ + 1 < 60; omega) (by omega) (F := fun x3 T' => f_X5_renderHabits_L19 G (ax A) a n x.1 x3 S T') go)
        · rw [if_neg (fun z => q4 z.2), List.append_nil] at go
          exact wp_f (fun z => q4 ((nI_0iff (by omega)).mp z)) (wp_gd h.1.1 (wp_gb s9 (c_hb1 h hU hR hW hT (by omega) (by omega) (F := fun x3 T' => f_X5_renderHabits_L19 G (ax A) a n x.1 x3 S T') go)))
theorem c_xt_L (h : wSh G S A) {x : gUA} {U : mU} (hU : uOk G S x) (hR : uR S x U) {tx l : List Nat} (hl : l.length + 14 ≤ 60) {a : Int32} : ∀ (n k : Nat) (T : gT), tP T A tx (l ++ mXt (mHas (U.1 7)) k) → k ≤ 4 → 4 - k < n → wp (f_X5_renderUmbrella_L107 G (ax A) a n x.1 (nI k) S T) (fun y => y.1 = .inr (nI (l ++ mXt (mHas (U.1 7)) 4).length) ∧ y.2.1 = S ∧ tP y.2.2 A tx (l ++ mXt (mHas (U.1 7)) 4)) := by
  have s9 := h.1.2.2.2.2.2.2.2.1
  intro n
  induction n with
  | zero => intro k T _ _ hn; omega
  | succ n ih =>
    intro k T hT hk hn
    have hl2 := mXt_len (mHas (U.1 7)) k
    rw [f_X5_renderUmbrella_L107]
    by_cases q : k = 4
    · subst q
      refine wp_t (by decide) (wp_gd h.1.1 (wp_gb s9 (wp_gb hT.2.1 (wp_ret ⟨rfl, rfl, hT⟩))))
    · have go : ∀ T', tP T' A tx (l ++ mXt (mHas (U.1 7)) (k + 1)) → wp (f_X5_renderUmbrella_L107 G (ax A) a n x.1 (nI (k + 1)) S T') (fun y => y.1 = .inr (nI (l ++ mXt (mHas (U.1 7)) 4).length) ∧ y.2.1 = S ∧ tP y.2.2 A tx (l ++ mXt (mHas (U.1 7)) 4)) := fun T' hT' => ih (k + 1) T' hT' (by omega) (by omega)
      rw [mXt] at go
      refine wp_f (show ¬ nI 4 ≤ nI k from nI_ge (by omega) (by decide)) (wp_gd hU.1.1 (wp_gb (c_has hU hR rfl) ?_))
      cases hb : mHas (U.1 7) k with
      | false =>
        rw [hb, if_neg (by decide), List.append_nil] at go
        refine wp_t rfl (wp_glt (fun y ey => ?_))
        rw [ey, nI_1]
        exact go T hT
      | true =>
        rw [hb, if_pos rfl, ← List.append_assoc] at go
        refine wp_f (by decide) (wp_gd h.1.1 (wp_gb s9 (c_putn h hT rfl (by omega) (by rw [List.length_append]; omega) (fun T' hT' => wp_glt (fun y ey => ?_)))))
        rw [ey, nI_1]
        rw [gdec1 (by omega)] at hT'
        exact go T' hT'
-- the reference's loops
theorem q_hb_L {m : Nat} {r : Nat → Nat} (h : mSh G S m r) {u : Nat} {U : mU} (hu : u < 6) (hR : rowU (gr S (r 0)) u U) (hU : uW N U) : ∀ (n k : Nat) (S' : gS), qW S m r (mHt (mHab U.2) k) S' → k ≤ 16 → 16 - k < n → wp (f_X6_renderHabits_L26 G m (nI u) n (nI k) S') (fun y => y.1 = nI (mHt (mHab U.2) 16).length ∧ qW S m r (mHt (mHab U.2) 16) y.2) := by
  have h0 : r 0 ∉ [m, r 4] := by
    have := mSh.ne h (show 0 < 7 by decide)
    have := h.2.2 0 4 (by decide) (by decide) (by decide)
    simp_all
  intro n
  induction n with
  | zero => intro k S' _ _ hn; omega
  | succ n ih =>
    intro k S' hq hk hn
    have hl := mHt_len (mHab U.2) k
    rw [f_X6_renderHabits_L26]
    by_cases q : k = 16
    · subst q
      refine wp_t (by decide) (wp_gd h.1 (wp_ret ⟨hq.2.2.1, hq⟩))
    · have go : ∀ S', qW S m r (mHt (mHab U.2) (k + 1)) S' → wp (f_X6_renderHabits_L26 G m (nI u) n (nI (k + 1)) S') (fun y => y.1 = nI (mHt (mHab U.2) 16).length ∧ qW S m r (mHt (mHab U.2) 16) y.2) := fun S' hS => ih (k + 1) S' hS (by omega) (by omega)
      unfold mHt at go
      have hb : ∀ (l : List Nat) (S1 : gS), l.length < 60 → qW S m r l S1 → (∀ S2, qW S m r (l ++ [if mHab U.2 k = true then 111 else 99]) S2 → wp (f_X6_renderHabits_L26 G m (nI u) n (nI (k + 1)) S2) (fun y => y.1 = nI (mHt (mHab U.2) 16).length ∧ qW S m r (mHt (mHab U.2) 16) y.2)) →
          wp (gb (f_X6_habit G m (nI u) (nI k / 4) (nI k - nI k / 4 * 4) S1) fun (r_14 : Int32) => if r_14 = 1 then (gb (f_X6_writes G m 111 S1) fun (S_21 : gS) => glt (nI k + 1) fun (x2_22 : Int32) => f_X6_renderHabits_L26 G m (nI u) n x2_22 S_21) else (gb (f_X6_writes G m 99 S1) fun (S_17 : gS) => glt (nI k + 1) fun (x2_18 : Int32) => f_X6_renderHabits_L26 G m (nI u) n x2_18 S_17)) (fun y => y.1 = nI (mHt (mHab U.2) 16).length ∧ qW S m r (mHt (mHab U.2) 16) y.2) := by
        intro l S1 hl1 q1 k1
        have hR1 : rowU (gr S1 (r 0)) u U := by
          have e : gr S1 (r 0) = gr S (r 0) := funext fun i => (q1.1.1 _ h0).2 i
          rw [e]
          exact hR
        have eh := q_habit (h.fr q1.1) (a := nI u) (b := nI k / 4) (c := nI k - nI k / 4 * 4) (rn := k / 4) (wd := k % 4) rfl (by rw [show (4 : Int32) = nI 4 from rfl, nI_div (by omega) (by decide)]) (by rw [show (4 : Int32) = nI 4 from rfl, nI_rem (by omega) (by decide)]) hu (by omega) (by omega) hR1 hU
        rw [show 4 * (k / 4) + k % 4 = k by omega] at eh
        refine wp_gb eh ?_
        cases hh : mHab U.2 k with
        | false =>
          rw [hh, if_neg (by decide)] at k1
          refine wp_f (by decide) (wp_gbw (q_writes h q1 hl1 (c := 99) rfl (by decide)) (fun S2 q2 => wp_glt (fun y ey => ?_)))
          rw [ey, nI_1]
          exact k1 S2 q2
        | true =>
          rw [hh, if_pos rfl] at k1
          refine wp_t rfl (wp_gbw (q_writes h q1 hl1 (c := 111) rfl (by decide)) (fun S2 q2 => wp_glt (fun y ey => ?_)))
          rw [ey, nI_1]
          exact k1 S2 q2
      refine wp_f (show ¬ nI 16 ≤ nI k from nI_ge (by omega) (by decide)) ?_
      by_cases q0 : k = 0
      · subst q0
        rw [if_neg (by omega), List.append_nil] at go
        exact wp_t (by decide) (wp_gd h.1 (hb _ S' (by omega) hq go))
      · refine wp_f (nI_nle (by omega) (by omega)) ?_
        have er : nI k - nI k / 4 * 4 = nI (k % 4) := by rw [show (4 : Int32) = nI 4 from rfl, nI_rem (by omega) (by decide)]
        by_cases q4 : k % 4 = 0
        · rw [if_pos ⟨by omega, q4⟩] at go
          refine wp_t (by rw [er, q4]; rfl) (wp_gd h.1 (wp_gbw (q_writes h hq (by omega) (c := 47) rfl (by decide)) (fun S1 q1 => ?_)))
          exact hb _ S1 (by rw [List.length_append]; show _ + 1 < 60; omega) q1 go
        · rw [if_neg (fun z => q4 z.2), List.append_nil] at go
          exact wp_f (by rw [er]; exact fun z => q4 ((nI_0iff (by omega)).mp z)) (wp_gd h.1 (hb _ S' (by omega) hq go))
theorem q_xt_L {m : Nat} {r : Nat → Nat} (h : mSh G S m r) {u : Nat} {U : mU} (hu : u < 6) (hR : rowU (gr S (r 0)) u U) (hU : uW N U) {l : List Nat} (hl : l.length + 4 ≤ 60) : ∀ (n k : Nat) (S' : gS), qW S m r (l ++ mXt (mHas (U.1 7)) k) S' → k ≤ 4 → 4 - k < n → wp (f_X6_renderUmbrella_L91 G m (nI u) n (nI k) S') (fun y => y.1 = nI (l ++ mXt (mHas (U.1 7)) 4).length ∧ qW S m r (l ++ mXt (mHas (U.1 7)) 4) y.2) := by
  have h0 : r 0 ∉ [m, r 4] := by
    have := mSh.ne h (show 0 < 7 by decide)
    have := h.2.2 0 4 (by decide) (by decide) (by decide)
    simp_all
  intro n
  induction n with
  | zero => intro k S' _ _ hn; omega
  | succ n ih =>
    intro k S' hq hk hn
    have hl2 := mXt_len (mHas (U.1 7)) k
    rw [f_X6_renderUmbrella_L91]
    by_cases q : k = 4
    · subst q
      refine wp_t (by decide) (wp_gd h.1 (wp_ret ⟨hq.2.2.1, hq⟩))
    · have go : ∀ S', qW S m r (l ++ mXt (mHas (U.1 7)) (k + 1)) S' → wp (f_X6_renderUmbrella_L91 G m (nI u) n (nI (k + 1)) S') (fun y => y.1 = nI (l ++ mXt (mHas (U.1 7)) 4).length ∧ qW S m r (l ++ mXt (mHas (U.1 7)) 4) y.2) := fun S' hS => ih (k + 1) S' hS (by omega) (by omega)
      rw [mXt] at go
      have hR1 : rowU (gr S' (r 0)) u U := by
        have e : gr S' (r 0) = gr S (r 0) := funext fun i => (hq.1.1 _ h0).2 i
        rw [e]
        exact hR
      have eh := q_has (h.fr hq.1) hR1 hU (a := nI u) (b := nI k) (wd := k) rfl rfl hu (by omega)
      rw [srow_eta] at eh
      refine wp_f (show ¬ nI 4 ≤ nI k from nI_ge (by omega) (by decide)) (wp_gd h.1 (wp_gb eh ?_))
      cases hb : mHas (U.1 7) k with
      | false =>
        rw [hb, if_neg (by decide), List.append_nil] at go
        refine wp_t rfl (wp_glt (fun y ey => ?_))
        rw [ey, nI_1]
        exact go S' hq
      | true =>
        rw [hb, if_pos rfl, ← List.append_assoc] at go
        refine wp_f (by decide) (wp_gbw (q_writes h hq (by rw [List.length_append]; omega) (c := 48 + k) (by rw [show (48 : Int32) = nI 48 from rfl, nI_add]) (by omega)) (fun S1 q1 => wp_glt (fun y ey => ?_)))
        rw [ey, nI_1]
        exact go S1 q1
end DG
