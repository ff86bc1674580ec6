/-! scripts: their language -/
def isD (c : Nat) : Bool := decide (48 ≤ c ∧ c ≤ 57)
def fit (f c : Nat) : Bool := if f = 35 then isD c else decide (f = c)
def mF (k : Nat) : List Nat := ([[97,100,100,32,35,35],[116,114,97,105,110,32,35,32,35,35,120,35],[112,101,114,105,111,100,32,35,32,35],[119,101,116,32,35],[103,97,108,101,32,35],[102,111,114,103,101,116,32,35,32,35],[101,120,97,109,32,35,32,35],[116,101,114,109]] : List (List Nat)).getD k []
def mLe (k : Nat) : Nat := ([5, 10, 10, 5, 6, 10, 8, 4] : List Nat).getD k 0
/-- how far a form is matched -/
def ml : List Nat → List Nat → Nat
  | [], _ => 0
  | _ :: _, [] => 0
  | f :: F, c :: l => if fit f c = true then ml F l + 1 else 0
/-- the command that a text begins, if any -/
def kf (l : List Nat) : Nat := match l with
  | [] => 6
  | c :: l => if c = 97 then 0 else if c = 116 then (match l with | [] => 7 | d :: _ => if d = 114 then 1 else 7) else if c = 112 then 2 else if c = 119 then 3 else if c = 103 then 4 else if c = 102 then 5 else 6
def mN (l : List Nat) : Nat := ml (mF (kf l)) l
def mOk (l : List Nat) : Bool := decide (mN l = mLe (kf l) ∨ mN l = (mF (kf l)).length)
/-- how far the next semicolon is, or the end -/
def sg : List Nat → Nat
  | [] => 0
  | c :: l => if c = 59 then 0 else sg l + 1
/-- the digits of a text -/
def dg : List Nat → List Nat
  | [] => []
  | c :: l => if isD c = true then (c - 48) :: dg l else dg l
def gj (D : List Nat) (j : Nat) : Int32 := match D[j]? with
  | some c => nI c
  | none => -1
/-- where a script's form fails -/
def mErr : Nat → List Nat → Option Nat
  | 0, _ => none
  | f + 1, l => if mOk l = true then (match l.drop (mN l) with | [] => none | c :: l' => if c = 59 then (mErr f l').map (· + (mN l + 1)) else some (mN l)) else some (mN l)
/-- a command's four numbers, from its digits -/
def mA (k : Nat) (D : List Nat) : Int32 := if k = 0 then (if gj D 1 = -1 then gj D 0 else 10 * gj D 0 + gj D 1) else gj D 0
def mD (k : Nat) (D : List Nat) : Int32 := if k = 1 then (if gj D 3 = -1 then 1 else gj D 3) else gj D 3
def mNt (M : mB) (l : List Nat) : Nat := mNot M (kf l) (mA (kf l) (dg (l.take (mN l)))) (gj (dg (l.take (mN l))) 1) (gj (dg (l.take (mN l))) 2) (mD (kf l) (dg (l.take (mN l))))
def mDt (M : mB) (l : List Nat) : mB := (mDo M (kf l) (mA (kf l) (dg (l.take (mN l)))) (gj (dg (l.take (mN l))) 1) (gj (dg (l.take (mN l))) 2) (mD (kf l) (dg (l.take (mN l))))).2
/-- a script run: the books, how many commands are done, whether all are -/
def mRun : Nat → List Nat → mB → mB × Nat × Bool
  | 0, _, M => (M, 0, true)
  | f + 1, l, M => if mNt M l = 0 then (match l.drop (mN l) with | [] => (mDt M l, 1, true) | _ :: l' => ((mRun f l' (mDt M l)).1, (mRun f l' (mDt M l)).2.1 + 1, (mRun f l' (mDt M l)).2.2)) else (M, 0, false)
theorem ml_nil (F : List Nat) : ml F [] = 0 := by cases F <;> rfl
theorem ml_t {f c : Nat} {F l : List Nat} (h : fit f c = true) : ml (f :: F) (c :: l) = ml F l + 1 := by rw [ml, if_pos h]
theorem ml_f {f c : Nat} {F l : List Nat} (h : fit f c = false) : ml (f :: F) (c :: l) = 0 := by rw [ml, if_neg (by rw [h]; decide)]
theorem fit_eq {c : Nat} (h : c ≠ 35) : fit c c = true := by unfold fit; rw [if_neg h]; exact decide_eq_true rfl
theorem fit_ne {f c : Nat} (h : f ≠ 35) (h2 : f ≠ c) : fit f c = false := by unfold fit; rw [if_neg h]; exact decide_eq_false h2
theorem fit_d (c : Nat) : fit 35 c = isD c := by unfold fit; rw [if_pos rfl]
theorem ml_len : ∀ (F l : List Nat), ml F l ≤ l.length ∧ ml F l ≤ F.length := by
  intro F
  induction F with
  | nil => intro l; exact ⟨Nat.zero_le _, Nat.zero_le _⟩
  | cons f F ih =>
    intro l
    cases l with
    | nil => exact ⟨Nat.zero_le _, Nat.zero_le _⟩
    | cons c l =>
      have := ih l
      cases h : fit f c with
      | true => rw [ml_t h, List.length_cons, List.length_cons]; omega
      | false => rw [ml_f h]; exact ⟨Nat.zero_le _, Nat.zero_le _⟩
theorem ml_sg : ∀ (F l : List Nat), (∀ f ∈ F, f ≠ 59) → ml F l ≤ sg l := by
  intro F
  induction F with
  | nil => intro l _; exact Nat.zero_le _
  | cons f F ih =>
    intro l hF
    cases l with
    | nil => exact Nat.zero_le _
    | cons c l =>
      cases h : fit f c with
      | true =>
        have hc : c ≠ 59 := by
          intro q
          subst q
          by_cases q : f = 35
          · subst q; exact absurd h (by decide)
          · rw [fit_ne q (hF f List.mem_cons_self)] at h; cases h
        rw [ml_t h, sg, if_neg hc]
        have := ih l (fun g hg => hF g (List.mem_cons_of_mem _ hg))
        omega
      | false => rw [ml_f h]; exact Nat.zero_le _
theorem mF59 {k : Nat} (hk : k < 8) : ∀ f ∈ mF k, f ≠ 59 := by
  have : ∀ k, k < 8 → ∀ f ∈ mF k, f ≠ 59 := by decide
  exact this k hk
theorem kf_lt (l : List Nat) : kf l < 8 := by
  unfold kf
  repeat' split
  all_goals decide
theorem mN_sg (l : List Nat) : mN l ≤ sg l := ml_sg _ _ (mF59 (kf_lt l))
theorem mN_len (l : List Nat) : mN l ≤ l.length := (ml_len _ _).1
theorem sg_len : ∀ l : List Nat, sg l ≤ l.length := by
  intro l
  induction l with
  | nil => exact Nat.le_refl _
  | cons c l ih =>
    unfold sg
    split
    · exact Nat.zero_le _
    · exact Nat.succ_le_succ ih
theorem sg_drop : ∀ l : List Nat, l.drop (sg l) = [] ∨ ∃ l', l.drop (sg l) = 59 :: l' := by
  intro l
  induction l with
  | nil => exact Or.inl rfl
  | cons c l ih =>
    by_cases h : c = 59
    · subst h; exact Or.inr ⟨l, rfl⟩
    · rw [sg, if_neg h]; exact ih
theorem sg_lt : ∀ (l : List Nat) (n : Nat), n < sg l → ∃ c l', l.drop n = c :: l' ∧ c ≠ 59 := by
  intro l
  induction l with
  | nil => intro n h; exact absurd h (Nat.not_lt_zero _)
  | cons c l ih =>
    intro n h
    by_cases h2 : c = 59
    · rw [sg, if_pos h2] at h; exact absurd h (Nat.not_lt_zero _)
    · rw [sg, if_neg h2] at h
      cases n with
      | zero => exact ⟨c, l, rfl, h2⟩
      | succ n => exact ih n (by omega)
/-- a command ends where its form does: at a semicolon, or at the end -/
theorem ends_iff (l : List Nat) : (mN l = sg l ∧ (l.drop (mN l) = [] ∨ ∃ l', l.drop (mN l) = 59 :: l')) ∨ (mN l < sg l ∧ ∃ c l', l.drop (mN l) = c :: l' ∧ c ≠ 59) := by
  by_cases h : mN l = sg l
  · refine Or.inl ⟨h, ?_⟩
    rw [h]
    exact sg_drop l
  · have := mN_sg l
    exact Or.inr ⟨by omega, sg_lt l _ (by omega)⟩
/-- the other commands' forms are hardly matched -/
theorem kf_other (l : List Nat) {k : Nat} (hk : k < 8) (hn : k ≠ kf l) : ml (mF k) l ≤ 1 ∧ ml (mF k) l ≤ mN l := by
  cases l with
  | nil => rw [ml_nil]; exact ⟨Nat.zero_le _, Nat.zero_le _⟩
  | cons c l =>
    have z : ∀ {f : Nat} {F : List Nat}, mF k = f :: F → f ≠ 35 → f ≠ c → ml (mF k) (c :: l) ≤ 1 ∧ ml (mF k) (c :: l) ≤ mN (c :: l) := fun e h1 h2 => by
      rw [e, ml_f (fit_ne h1 h2)]
      exact ⟨Nat.zero_le _, Nat.zero_le _⟩
    have hk' : k = 0 ∨ k = 1 ∨ k = 2 ∨ k = 3 ∨ k = 4 ∨ k = 5 ∨ k = 6 ∨ k = 7 := by omega
    by_cases ht : c = 116
    · subst ht
      rcases hk' with rfl | rfl | rfl | rfl | rfl | rfl | rfl | rfl
      · exact z rfl (by decide) (by decide)
      · cases l with
        | nil => exact ⟨Nat.le_refl _, Nat.le_refl _⟩
        | cons d l =>
          by_cases hd : d = 114
          · subst hd; exact absurd rfl hn
          · have e : kf (116 :: d :: l) = 7 := by show (if d = 114 then 1 else 7) = 7; rw [if_neg hd]
            have e1 : ml (mF 1) (116 :: d :: l) = 1 := by
              show ml (116 :: 114 :: _) _ = 1
              rw [ml_t (by decide), ml_f (fit_ne (by decide) (Ne.symm hd))]
            have e2 : mN (116 :: d :: l) = ml [101, 114, 109] (d :: l) + 1 := by
              unfold mN
              rw [e]
              exact ml_t (by decide)
            rw [e1, e2]
            exact ⟨Nat.le_refl _, Nat.le_add_left _ _⟩
      · exact z rfl (by decide) (by decide)
      · exact z rfl (by decide) (by decide)
      · exact z rfl (by decide) (by decide)
      · exact z rfl (by decide) (by decide)
      · exact z rfl (by decide) (by decide)
      · cases l with
        | nil => exact absurd rfl hn
        | cons d l =>
          by_cases hd : d = 114
          · subst hd
            have e2 : mN (116 :: 114 :: l) = ml [97,105,110,32,35,32,35,35,120,35] l + 1 + 1 := by
              show ml (116 :: 114 :: _) _ = _
              rw [ml_t (by decide), ml_t (by decide)]
            have e1 : ml (mF 7) (116 :: 114 :: l) = 1 := by
              show ml (116 :: 101 :: _) _ = 1
              rw [ml_t (by decide), ml_f (by decide)]
            rw [e1, e2]
            omega
          · exact absurd (show 7 = kf (116 :: d :: l) by show 7 = (if d = 114 then 1 else 7); rw [if_neg hd]) hn
    · rcases hk' with rfl | rfl | rfl | rfl | rfl | rfl | rfl | rfl
      · exact z rfl (by decide) (fun q => hn (by subst q; rfl))
      · exact z rfl (by decide) (Ne.symm ht)
      · exact z rfl (by decide) (fun q => hn (by subst q; rfl))
      · exact z rfl (by decide) (fun q => hn (by subst q; rfl))
      · exact z rfl (by decide) (fun q => hn (by subst q; rfl))
      · exact z rfl (by decide) (fun q => hn (by subst q; rfl))
      · exact z rfl (by decide) (fun q => hn (by subst q; rfl))
      · exact z rfl (by decide) (Ne.symm ht)
theorem mLe_in {k : Nat} (hk : k < 8) : 4 ≤ mLe k ∧ mLe k ≤ (mF k).length ∧ (mF k).length ≤ 12 := by
  have : ∀ k, k < 8 → 4 ≤ mLe k ∧ mLe k ≤ (mF k).length ∧ (mF k).length ≤ 12 := by decide
  exact this k hk
theorem gfl_eq {k : Nat} (hk : k < 8) : gfl k = (mF k).length := by
  have : ∀ k, k < 8 → gfl k = (mF k).length := by decide
  exact this k hk
theorem glst_eq {k : Nat} (hk : k < 8) : glst k = nI (mLe k) := by
  have : ∀ k, k < 8 → glst k = nI (mLe k) := by decide
  exact this k hk
theorem gfc_eq {k i : Nat} (hk : k < 8) (hi : i < (mF k).length) : ∃ f F, (mF k).drop i = f :: F ∧ gfc k i = nI f ∧ f < 128 ∧ (mF k).drop (i + 1) = F := by
  have hg : ∀ k, k < 8 → ∀ i, i < 12 → i < (mF k).length → gfc k i = nI ((mF k).getD i 0) ∧ (mF k).getD i 0 < 128 := by decide
  have h12 := (mLe_in hk).2.2
  obtain ⟨g1, g2⟩ := hg k hk i (by omega) hi
  refine ⟨(mF k).getD i 0, (mF k).drop (i + 1), ?_, g1, g2, rfl⟩
  rw [List.drop_eq_getElem_cons hi]
  congr 1
  rw [List.getD_eq_getElem?_getD, List.getElem?_eq_getElem hi]
  rfl
theorem mOk_pos {l : List Nat} (h : mOk l = true) : 4 ≤ mN l := by
  have := mLe_in (kf_lt l)
  rcases of_decide_eq_true h with q | q <;> omega
