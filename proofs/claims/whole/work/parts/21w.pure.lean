/-! scripts: the class reads -/
theorem dr_cons {tx : List Nat} {q : Nat} (h : q < tx.length) : ∃ c, tx.drop q = c :: tx.drop (q + 1) ∧ List.getD tx q 0 = c ∧ c ∈ tx := by
  refine ⟨tx[q], List.drop_eq_getElem_cons h, ?_, List.getElem_mem h⟩
  rw [List.getD_eq_getElem?_getD, List.getElem?_eq_getElem h]
  rfl
theorem c_isD {c : Nat} (hc : c < 2 ^ 31) : f_X5_isDigit (nI c) = some (isD c) := by
  unfold f_X5_isDigit isD
  rw [show (48 : Int32) = nI 48 from rfl, show (57 : Int32) = nI 57 from rfl]
  by_cases h : c < 48
  · rw [if_pos (nI_lt h (by decide)), decide_eq_false (by omega)]
  · rw [if_neg (nI_nlt (by omega) hc)]
    by_cases h2 : 57 < c
    · rw [if_pos (nI_lt h2 hc), decide_eq_false (by omega)]
    · rw [if_neg (nI_nlt (by omega) (by decide)), decide_eq_true (by omega)]
theorem c_fits {f c : Nat} (hf : f < 2 ^ 31) (hc : c < 2 ^ 31) : f_X5_fits (nI f) (nI c) = some (fit f c) := by
  unfold f_X5_fits fit
  by_cases h : f = 35
  · subst h
    rw [if_pos rfl, if_pos (by rfl), c_isD hc, gb_S]
  · rw [if_neg h, if_neg (show ¬ nI f = 35 from fun q => h ((nI_eq (b := 35) hf (by decide)).mp q))]
    by_cases h2 : f = c
    · rw [if_pos (congrArg nI h2), decide_eq_true h2]
    · rw [if_neg (fun q => h2 ((nI_eq hf hc).mp q)), decide_eq_false h2]
section DJ
variable {G : gG} {S : gS} {T : gT} {A : aW} {tx : List Nat}
theorem c_end_L (h : wSh G S A) (hT : tg T (at1 A) = some tx) (hl : tx.length ≤ 60) (hc : ∀ c ∈ tx, c < 128) {a : Int32} : ∀ (n q : Nat), q ≤ tx.length → tx.length - q < n → f_X5_commandEnd_L2 G (ax A) a S T n (nI q) = some (nI (q + sg (tx.drop q))) := by
  have s8 := h.1.2.2.2.2.2.2.1
  intro n
  induction n with
  | zero => intro q _ hn; omega
  | succ n ih =>
    intro q hq hn
    rw [f_X5_commandEnd_L2, gd_i h.1.1, s8, gb_S, hT, gb_S]
    by_cases e : q = tx.length
    · subst e
      rw [if_pos (Int32.le_refl _), gb_S, hT, gb_S, List.drop_length]
      rfl
    · obtain ⟨c, d1, d2, d3⟩ := dr_cons (tx := tx) (q := q) (by omega)
      have h3 := hc c d3
      rw [if_neg (nI_ge (by omega) (by omega)), gb_S, hT, gb_S, gd_i (vp_nI (by omega) (by omega)), nI_clamp (by omega), d2, d1, sg]
      by_cases e2 : c = 59
      · subst e2
        rw [if_pos (by rfl), if_pos rfl]
        rfl
      · rw [if_neg (show ¬ nI c = 59 from fun z => e2 ((nI_eq (b := 59) (by omega) (by decide)).mp z)), if_neg e2, glt_S, nI_1, ih (q + 1) (by omega) (by omega), show q + 1 + sg (tx.drop (q + 1)) = q + (sg (tx.drop (q + 1)) + 1) by omega]
theorem c_end (h : wSh G S A) (hT : tg T (at1 A) = some tx) (hl : tx.length ≤ 60) (hc : ∀ c ∈ tx, c < 128) {q : Nat} (hq : q ≤ tx.length) : f_X5_commandEnd G (ax A) (nI q) S T = some (nI (q + sg (tx.drop q))) := c_end_L h hT hl hc gN q hq (by rw [gN_e]; omega)
theorem c_match_L (h : wSh G S A) (hT : tg T (at1 A) = some tx) (hl : tx.length ≤ 60) (hc : ∀ c ∈ tx, c < 128) {k p : Nat} (hk : k < 8) (hp : p ≤ tx.length) : ∀ (n i : Nat), i ≤ (mF k).length → (mF k).length - i < n → f_X5_matchedLength_L2 G (ax A) k (nI p) S T n (nI i) = some (nI (i + ml ((mF k).drop i) (tx.drop (p + i)))) := by
  have s8 := h.1.2.2.2.2.2.2.1
  have h12 := (mLe_in hk).2.2
  intro n
  induction n with
  | zero => intro i _ hn; omega
  | succ n ih =>
    intro i hi hn
    rw [f_X5_matchedLength_L2, gd_i hk, gfl_eq hk]
    by_cases e : i = (mF k).length
    · subst e
      rw [if_pos (Int32.le_refl _), List.drop_length]
      rfl
    · rw [if_neg (nI_ge (by omega) (by omega)), gd_i h.1.1, s8, gb_S, hT, gb_S, nI_add]
      by_cases e2 : tx.length ≤ p + i
      · rw [if_pos (nI_le e2 (by omega)), List.drop_of_length_le e2, ml_nil]
        rfl
      · obtain ⟨c, d1, d2, d3⟩ := dr_cons (tx := tx) (q := p + i) (by omega)
        obtain ⟨f, F, f1, f2, f3, f4⟩ := gfc_eq hk (i := i) (by omega)
        have h3 := hc c d3
        rw [if_neg (nI_ge (by omega) (by omega)), gd_i (vp_nI (by omega) (by omega)), gb_S, hT, gb_S, gd_i (vp_nI (by omega) (by omega)), nI_clamp (by omega), nI_clamp (by omega), d2, f2, c_fits (by omega) (by omega), gb_S, d1, f1]
        cases e3 : fit f c with
        | false => rw [if_pos (show gz false = 0 from rfl), ml_f e3]; rfl
        | true =>
          rw [if_neg (show ¬ gz true = 0 by decide), glt_S, nI_1, ih (i + 1) (by omega) (by omega), ml_t e3, f4, show p + (i + 1) = p + i + 1 by omega, show i + 1 + ml F (tx.drop (p + i + 1)) = i + (ml F (tx.drop (p + i + 1)) + 1) by omega]
theorem c_match (h : wSh G S A) (hT : tg T (at1 A) = some tx) (hl : tx.length ≤ 60) (hc : ∀ c ∈ tx, c < 128) {k p : Nat} (hk : k < 8) (hp : p ≤ tx.length) : f_X5_matchedLength G (ax A) k (nI p) S T = some (nI (ml (mF k) (tx.drop p))) := by
  have h12 := (mLe_in hk).2.2
  have := c_match_L h hT hl hc hk hp gN 0 (by omega) (by rw [gN_e]; omega)
  rw [List.drop_zero, Nat.zero_add] at this
  exact this
theorem c_cmd_L (h : wSh G S A) (hT : tg T (at1 A) = some tx) (hl : tx.length ≤ 60) (hc : ∀ c ∈ tx, c < 128) {p : Nat} (hp : p ≤ tx.length) : ∀ (n i : Nat), i ≤ 8 → 8 - i < n → f_X5_commandAt_L11 G (ax A) (nI p) (nI (p + sg (tx.drop p))) S T n 8 (nI i) = some (if i ≤ kf (tx.drop p) ∧ mOk (tx.drop p) = true ∧ mN (tx.drop p) = sg (tx.drop p) then some (kf (tx.drop p)) else none) := by
  have hs := sg_len (tx.drop p)
  rw [List.length_drop] at hs
  have hkl := kf_lt (tx.drop p)
  have hm0 := mN_len (tx.drop p)
  rw [List.length_drop] at hm0
  intro n
  induction n with
  | zero => intro i _ hn; omega
  | succ n ih =>
    intro i hi hn
    rw [f_X5_commandAt_L11]
    by_cases e : i = 8
    · subst e
      rw [if_pos (by decide), if_neg (by omega)]
    · have h8 : i < 8 := by omega
      have hM := mLe_in h8
      rw [if_neg (show ¬ (8 : Int32) ≤ nI i from nI_ge (b := 8) h8 (by decide)), gd_i (vp_nI h8 (by decide)), nI_clamp (by omega), gd_i h8, gd_i h.1.1, c_match h hT hl hc h8 hp, gb_S, glst_eq h8, gfl_eq h8]
      rw [nI_sub (by omega), show p + sg (tx.drop p) - p = sg (tx.drop p) by omega]
      have go : ∀ x, glt (nI i + 1) (fun x5 => f_X5_commandAt_L11 G (ax A) (nI p) (nI (p + sg (tx.drop p))) S T n 8 x5) = some x ↔ x = if i + 1 ≤ kf (tx.drop p) ∧ mOk (tx.drop p) = true ∧ mN (tx.drop p) = sg (tx.drop p) then some (kf (tx.drop p)) else none := fun x => by
        rw [glt_S, nI_1, ih (i + 1) (by omega) (by omega)]
        exact ⟨fun q => (Option.some.inj q).symm, fun q => congrArg some q.symm⟩
      by_cases ek : i = kf (tx.drop p)
      · have em : ml (mF i) (tx.drop p) = mN (tx.drop p) := by rw [ek]; rfl
        have er : ∀ x, x = (if i + 1 ≤ kf (tx.drop p) ∧ mOk (tx.drop p) = true ∧ mN (tx.drop p) = sg (tx.drop p) then some (kf (tx.drop p)) else none) ↔ x = none := fun x => by rw [if_neg (by omega)]
        rw [em]
        by_cases q1 : mN (tx.drop p) = mLe i
        · rw [if_pos (congrArg nI q1)]
          have ok : mOk (tx.drop p) = true := decide_eq_true (Or.inl (by rw [← ek]; exact q1))
          by_cases q2 : mN (tx.drop p) = sg (tx.drop p)
          · rw [if_pos (congrArg nI q2), if_pos ⟨by omega, ok, q2⟩, ek]
          · rw [if_neg (fun z => q2 ((nI_eq (by omega) (by omega)).mp z)), if_neg (fun z => q2 z.2.2)]
            exact (go none).mpr ((er none).mpr rfl)
        · rw [if_neg (fun z => q1 ((nI_eq (by omega) (by omega)).mp z))]
          by_cases q3 : mN (tx.drop p) = (mF i).length
          · rw [if_pos (congrArg nI q3)]
            have ok : mOk (tx.drop p) = true := decide_eq_true (Or.inr (by rw [← ek]; exact q3))
            by_cases q2 : mN (tx.drop p) = sg (tx.drop p)
            · rw [if_pos (congrArg nI q2), if_pos ⟨by omega, ok, q2⟩, ek]
            · rw [if_neg (fun z => q2 ((nI_eq (by omega) (by omega)).mp z)), if_neg (fun z => q2 z.2.2)]
              exact (go none).mpr ((er none).mpr rfl)
          · rw [if_neg (fun z => q3 ((nI_eq (by omega) (by omega)).mp z)), if_neg (fun z => by
              rcases of_decide_eq_true z.2.1 with y | y
              · rw [← ek] at y; exact q1 y
              · rw [← ek] at y; exact q3 y)]
            exact (go none).mpr ((er none).mpr rfl)
      · have ho := kf_other (tx.drop p) h8 ek
        rw [if_neg (fun z => by have := (nI_eq (by omega) (by omega)).mp z; omega), if_neg (fun z => by have := (nI_eq (by omega) (by omega)).mp z; omega)]
        refine (go _).mpr ?_
        by_cases q : i + 1 ≤ kf (tx.drop p)
        · by_cases q2 : mOk (tx.drop p) = true ∧ mN (tx.drop p) = sg (tx.drop p)
          · rw [if_pos ⟨by omega, q2⟩, if_pos ⟨q, q2⟩]
          · rw [if_neg (fun z => q2 z.2), if_neg (fun z => q2 z.2)]
        · rw [if_neg (fun z => by have := z.1; omega), if_neg (fun z => q z.1)]
theorem c_cmd (h : wSh G S A) (hT : tg T (at1 A) = some tx) (hl : tx.length ≤ 60) (hc : ∀ c ∈ tx, c < 128) {p : Nat} (hp : p ≤ tx.length) : f_X5_commandAt G (ax A) (nI p) (nI (p + sg (tx.drop p))) S T = some (if mOk (tx.drop p) = true ∧ mN (tx.drop p) = sg (tx.drop p) then some (kf (tx.drop p)) else none) := by
  have := c_cmd_L h hT hl hc hp gN 0 (by decide) (by rw [gN_e]; decide)
  refine this.trans (congrArg some ?_)
  by_cases q : mOk (tx.drop p) = true ∧ mN (tx.drop p) = sg (tx.drop p)
  · rw [if_pos q, if_pos ⟨Nat.zero_le _, q⟩]
  · rw [if_neg q, if_neg (fun z => q z.2)]
theorem c_long_L (h : wSh G S A) (hT : tg T (at1 A) = some tx) (hl : tx.length ≤ 60) (hc : ∀ c ∈ tx, c < 128) {p : Nat} (hp : p ≤ tx.length) : ∀ (n i a : Nat), i ≤ 8 → 8 - i < n → a ≤ mN (tx.drop p) → (kf (tx.drop p) < i → a = mN (tx.drop p)) → f_X5_longestMatch_L13 G (ax A) (nI p) S T n (nI a) 8 (nI i) = some (nI (mN (tx.drop p))) := by
  have hkl := kf_lt (tx.drop p)
  have hm0 := mN_len (tx.drop p)
  rw [List.length_drop] at hm0
  intro n
  induction n with
  | zero => intro i a _ hn; omega
  | succ n ih =>
    intro i a hi hn ha hk
    rw [f_X5_longestMatch_L13]
    by_cases e : i = 8
    · subst e
      rw [if_pos (by decide), hk hkl]
    · have h8 : i < 8 := by omega
      have hM := mLe_in h8
      rw [if_neg (show ¬ (8 : Int32) ≤ nI i from nI_ge (b := 8) h8 (by decide)), gd_i (vp_nI h8 (by decide)), nI_clamp (by omega), gd_i h8, gd_i h.1.1, c_match h hT hl hc h8 hp, gb_S, glt_S, glt_S, nI_1]
      have hb : ml (mF i) (tx.drop p) ≤ mN (tx.drop p) := by
        by_cases ek : i = kf (tx.drop p)
        · rw [ek]; exact Nat.le_refl _
        · exact (kf_other _ h8 ek).2
      have em : i = kf (tx.drop p) → ml (mF i) (tx.drop p) = mN (tx.drop p) := fun ek => by rw [ek]; rfl
      by_cases q : a < ml (mF i) (tx.drop p)
      · rw [if_pos (nI_lt q (by omega))]
        refine ih (i + 1) _ (by omega) (by omega) hb (fun z => ?_)
        by_cases ek : i = kf (tx.drop p)
        · exact em ek
        · have := hk (by omega)
          omega
      · rw [if_neg (nI_nlt (by omega) (by omega))]
        refine ih (i + 1) _ (by omega) (by omega) ha (fun z => ?_)
        by_cases ek : i = kf (tx.drop p)
        · have := em ek
          omega
        · exact hk (by omega)
theorem c_long (h : wSh G S A) (hT : tg T (at1 A) = some tx) (hl : tx.length ≤ 60) (hc : ∀ c ∈ tx, c < 128) {p : Nat} (hp : p ≤ tx.length) : f_X5_longestMatch G (ax A) (nI p) S T = some (nI (mN (tx.drop p))) :=
  c_long_L h hT hl hc hp gN 0 0 (by decide) (by rw [gN_e]; decide) (Nat.zero_le _) (fun z => absurd z (Nat.not_lt_zero _))
theorem c_dig_L (h : wSh G S A) (hT : tg T (at1 A) = some tx) (hl : tx.length ≤ 60) (hc : ∀ c ∈ tx, c < 128) {e j : Nat} (he : e ≤ tx.length) (hj : j < 100) {a : Int32} : ∀ (n q i : Nat), q ≤ e → e - q < n → i ≤ j → f_X5_digitAt_L6 G (ax A) a (nI e) (nI j) S T n (nI i) (nI q) = some (gj (dg ((tx.drop q).take (e - q))) (j - i)) := by
  have s8 := h.1.2.2.2.2.2.2.1
  intro n
  induction n with
  | zero => intro q i _ hn; omega
  | succ n ih =>
    intro q i hq hn hi
    rw [f_X5_digitAt_L6]
    by_cases e1 : q = e
    · subst e1
      rw [if_pos (Int32.le_refl _), Nat.sub_self, List.take_zero]
      rfl
    · obtain ⟨c, d1, d2, d3⟩ := dr_cons (tx := tx) (q := q) (by omega)
      have h3 := hc c d3
      rw [if_neg (nI_ge (by omega) (by omega)), gd_i h.1.1, s8, gb_S, hT, gb_S, if_neg (nI_ge (by omega) (by omega)), gb_S, hT, gb_S, gd_i (vp_nI (by omega) (by omega)), nI_clamp (by omega), d2, glt_S, c_isD (by omega), gb_S, d1, show e - q = (e - (q + 1)) + 1 by omega, List.take_succ_cons, dg]
      cases e2 : isD c with
      | false =>
        rw [if_pos (show gz false = 0 from rfl), glt_S, nI_1, ih (q + 1) i (by omega) (by omega) hi, if_neg (by decide)]
      | true =>
        have e3 := of_decide_eq_true e2
        rw [if_neg (show ¬ gz true = 0 by decide), if_pos rfl]
        by_cases e4 : i = j
        · subst e4
          rw [if_pos rfl, Nat.sub_self, show (48 : Int32) = nI 48 from rfl, nI_sub (by omega)]
          rfl
        · rw [if_neg (fun z => e4 ((nI_eq (by omega) (by omega)).mp z)), glt_S, glt_S, nI_1, nI_1, ih (q + 1) (i + 1) (by omega) (by omega) (by omega), show j - i = (j - (i + 1)) + 1 by omega]
          rfl
theorem c_dig (h : wSh G S A) (hT : tg T (at1 A) = some tx) (hl : tx.length ≤ 60) (hc : ∀ c ∈ tx, c < 128) {p j : Nat} (hp : p ≤ tx.length) (hj : j < 100) {b : Int32} (hb : b = nI j) : f_X5_digitAt G (ax A) (nI p) (nI (p + sg (tx.drop p))) b S T = some (gj (dg ((tx.drop p).take (sg (tx.drop p)))) j) := by
  subst hb
  have hs := sg_len (tx.drop p)
  rw [List.length_drop] at hs
  have := c_dig_L h hT hl hc (e := p + sg (tx.drop p)) (by omega) hj (a := nI p) gN p 0 (by omega) (by rw [gN_e]; omega) (Nat.zero_le _)
  rw [show p + sg (tx.drop p) - p = sg (tx.drop p) by omega] at this
  exact this
theorem drop_more {tx : List Nat} {p n : Nat} : (tx.drop p).drop n = tx.drop (p + n) := List.drop_drop
/-- where the form fails, by the class -/
theorem c_err_L (h : wSh G S A) (hT : tg T (at1 A) = some tx) (hl : tx.length ≤ 60) (hc : ∀ c ∈ tx, c < 128) : ∀ (n p i : Nat), p ≤ tx.length → tx.length - p < n → i ≤ p → f_X5_findFormError_L4 G (ax A) S T n (nI p) (nI i) = some (match mErr n (tx.drop p) with | none => -1 | some e => nI (p + e)) := by
  have s8 := h.1.2.2.2.2.2.2.1
  intro n
  induction n with
  | zero => intro p i _ hn; omega
  | succ n ih =>
    intro p i hp hn hi
    have hs := sg_len (tx.drop p)
    rw [List.length_drop] at hs
    rw [f_X5_findFormError_L4, gd_i h.1.1, s8, gb_S, hT, gb_S, if_neg (nI_nlt (by omega) (by omega)), c_end h hT hl hc hp, gb_S, c_cmd h hT hl hc hp, gb_S, mErr]
    cases e1 : mOk (tx.drop p) with
    | false =>
      rw [if_neg (fun z => absurd z.1 (by decide)), if_neg (by decide)]
      show gb (f_X5_longestMatch G (ax A) (nI p) S T) (fun r => some (nI p + r)) = _
      rw [c_long h hT hl hc hp, gb_S, nI_add]
    | true =>
      rw [if_pos (show true = true from rfl)]
      rcases ends_iff (tx.drop p) with ⟨e2, e3⟩ | ⟨e2, c, l', e3, e4⟩
      · rw [if_pos ⟨rfl, e2⟩]
        show gb (some (at1 A)) (fun b => gb (tg T b) fun t => if nI (p + sg (tx.drop p)) < nI t.length then _ else _) = _
        rw [gb_S, hT, gb_S]
        rcases e3 with e3 | ⟨l', e3⟩
        · rw [e3]
          have : tx.length ≤ p + sg (tx.drop p) := by
            rw [drop_more, e2] at e3
            exact List.drop_eq_nil_iff.mp e3
          rw [if_neg (nI_nlt this (by omega))]
        · rw [e3]
          have e5 : tx.drop (p + sg (tx.drop p)) = 59 :: l' := by rw [← drop_more, ← e2]; exact e3
          have lt : p + sg (tx.drop p) < tx.length := by
            refine Nat.not_le.mp (fun z => ?_)
            rw [List.drop_of_length_le z] at e5
            cases e5
          have e6 : l' = tx.drop (p + sg (tx.drop p) + 1) := by
            rw [List.drop_eq_getElem_cons lt] at e5
            exact (List.cons.inj e5).2.symm
          rw [if_pos (nI_lt lt (by omega)), glt_S, glt_S, nI_1, nI_1, ih _ _ (by omega) (by omega) (by omega), ← e6]
          show some _ = some (match (if 59 = 59 then (mErr n l').map _ else _) with | none => -1 | some e => nI (p + e))
          rw [if_pos rfl]
          cases mErr n l' with
          | none => rfl
          | some x => exact congrArg (fun y => some (nI y)) (show p + sg (tx.drop p) + 1 + x = p + (x + (mN (tx.drop p) + 1)) by omega)
      · rw [if_neg (fun z => by have := z.2; omega)]
        show gb (f_X5_longestMatch G (ax A) (nI p) S T) (fun r => some (nI p + r)) = _
        rw [c_long h hT hl hc hp, gb_S, nI_add, e3]
        show _ = some (match (if c = 59 then (mErr n l').map _ else some (mN (tx.drop p))) with | none => -1 | some e => nI (p + e))
        rw [if_neg e4]
theorem c_err (h : wSh G S A) (hT : tg T (at1 A) = some tx) (hl : tx.length ≤ 60) (hc : ∀ c ∈ tx, c < 128) : f_X5_findFormError G (ax A) S T = some (match mErr gN tx with | none => -1 | some e => nI e) := by
  have := c_err_L h hT hl hc gN 0 0 (Nat.zero_le _) (by rw [gN_e]; omega) (Nat.le_refl _)
  rw [List.drop_zero] at this
  refine this.trans ?_
  cases mErr gN tx with
  | none => rfl
  | some e => show some (nI (0 + e)) = some (nI e); rw [Nat.zero_add]
/-- semicolons -/
def cs9 : List Nat → Nat
  | [] => 0
  | c :: l => if c = 59 then cs9 l + 1 else cs9 l
theorem c_cnt_L (h : wSh G S A) (hT : tg T (at1 A) = some tx) (hl : tx.length ≤ 60) (hc : ∀ c ∈ tx, c < 128) : ∀ (n q a : Nat), q ≤ tx.length → tx.length - q < n → f_X5_countCommands_L4 G (ax A) S T n (nI a) (nI q) = some (nI (a + cs9 (tx.drop q))) := by
  have s8 := h.1.2.2.2.2.2.2.1
  intro n
  induction n with
  | zero => intro q a _ hn; omega
  | succ n ih =>
    intro q a hq hn
    rw [f_X5_countCommands_L4, gd_i h.1.1, s8, gb_S, hT, gb_S]
    by_cases e : q = tx.length
    · subst e
      rw [if_pos (Int32.le_refl _), List.drop_length]
      rfl
    · obtain ⟨c, d1, d2, d3⟩ := dr_cons (tx := tx) (q := q) (by omega)
      have h3 := hc c d3
      rw [if_neg (nI_ge (by omega) (by omega)), gb_S, hT, gb_S, gd_i (vp_nI (by omega) (by omega)), nI_clamp (by omega), d2, d1, cs9]
      by_cases e2 : c = 59
      · subst e2
        rw [if_pos (by rfl), if_pos rfl, glt_S, glt_S, nI_1, nI_1, ih _ _ (by omega) (by omega), show a + 1 + cs9 (tx.drop (q + 1)) = a + (cs9 (tx.drop (q + 1)) + 1) by omega]
      · rw [if_neg (show ¬ nI c = 59 from fun z => e2 ((nI_eq (b := 59) (by omega) (by decide)).mp z)), if_neg e2, glt_S, nI_1, ih _ _ (by omega) (by omega)]
theorem c_cnt (h : wSh G S A) (hT : tg T (at1 A) = some tx) (hl : tx.length ≤ 60) (hc : ∀ c ∈ tx, c < 128) : f_X5_countCommands G (ax A) S T = some (nI (1 + cs9 tx)) := c_cnt_L h hT hl hc gN 0 1 (Nat.zero_le _) (by rw [gN_e]; omega)
theorem cs9_sg : ∀ l : List Nat, (l.drop (sg l) = [] → cs9 l = 0) ∧ ∀ l', l.drop (sg l) = 59 :: l' → cs9 l = cs9 l' + 1 := by
  intro l
  induction l with
  | nil => exact ⟨fun _ => rfl, fun l' q => by cases q⟩
  | cons c l ih =>
    by_cases h : c = 59
    · subst h
      refine ⟨fun q => (by cases q), fun l' q => ?_⟩
      have q : (59 :: l : List Nat) = 59 :: l' := q
      cases q
      rfl
    · rw [sg, if_neg h, cs9, if_neg h]
      exact ih
end DJ
