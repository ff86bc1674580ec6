/-! scripts: their runs -/
/-- how much a script of so many characters may change a total -/
def mK (n : Nat) : Nat := 640 * n + 640
theorem mK_ge (n : Nat) : 640 ≤ mK n := Nat.le_add_left _ _
theorem mK_step {n' n : Nat} (h : n' < n) : mK n' + 640 ≤ mK n := by
  have := Nat.mul_le_mul_left 640 h
  exact Nat.add_le_add_right this 640
theorem mK_le {n : Nat} (h : n ≤ 60) : mK n ≤ 39040 := Nat.add_le_add_right (Nat.mul_le_mul_left 640 h) 640
theorem mErr_fuel : ∀ (f f' : Nat) (l : List Nat), l.length < f → l.length < f' → mErr f l = mErr f' l := by
  intro f
  induction f with
  | zero => intro f' l h; exact absurd h (Nat.not_lt_zero _)
  | succ f ih =>
    intro f' l h h'
    obtain ⟨f', rfl⟩ : ∃ k, f' = k + 1 := ⟨f' - 1, by omega⟩
    rw [mErr, mErr]
    cases e : mOk l with
    | false => rfl
    | true =>
      rw [if_pos rfl, if_pos rfl]
      cases e2 : l.drop (mN l) with
      | nil => rfl
      | cons c l' =>
        have e3 := congrArg List.length e2
        rw [List.length_drop, List.length_cons] at e3
        show (if c = 59 then (mErr f l').map _ else _) = (if c = 59 then (mErr f' l').map _ else _)
        rw [ih f' l' (by omega) (by omega)]
theorem mRun_fuel : ∀ (f f' : Nat) (l : List Nat) (M : mB), l.length < f → l.length < f' → mRun f l M = mRun f' l M := by
  intro f
  induction f with
  | zero => intro f' l M h; exact absurd h (Nat.not_lt_zero _)
  | succ f ih =>
    intro f' l M h h'
    obtain ⟨f', rfl⟩ : ∃ k, f' = k + 1 := ⟨f' - 1, by omega⟩
    rw [mRun, mRun]
    by_cases e : mNt M l = 0
    · rw [if_pos e, if_pos e]
      cases e2 : l.drop (mN l) with
      | nil => rfl
      | cons c l' =>
        have e3 := congrArg List.length e2
        rw [List.length_drop, List.length_cons] at e3
        show ((mRun f l' (mDt M l)).1, (mRun f l' (mDt M l)).2.1 + 1, (mRun f l' (mDt M l)).2.2) = ((mRun f' l' (mDt M l)).1, (mRun f' l' (mDt M l)).2.1 + 1, (mRun f' l' (mDt M l)).2.2)
        rw [ih f' l' _ (by omega) (by omega)]
    · rw [if_neg e, if_neg e]
theorem bW_run : ∀ (f : Nat) (l : List Nat) (M : mB) (N : Nat), bW N M → N + mK l.length ≤ 2 ^ 30 → bW (N + mK l.length) (mRun f l M).1 := by
  intro f
  induction f with
  | zero => intro l M N h _; exact h.mono (by omega)
  | succ f ih =>
    intro l M N h hN
    have k0 := mK_ge l.length
    rw [mRun]
    by_cases e : mNt M l = 0
    · rw [if_pos e]
      have h2 : bW (N + 640) (mDt M l) := bW_do h (by omega) e
      cases e2 : l.drop (mN l) with
      | nil => exact h2.mono (by omega)
      | cons c l' =>
        have e3 := congrArg List.length e2
        rw [List.length_drop, List.length_cons] at e3
        have k1 := mK_step (show l'.length < l.length by omega)
        exact (ih l' _ _ h2 (by omega)).mono (by omega)
    · rw [if_neg e]
      exact h.mono (by omega)
theorem mRun_done : ∀ (f : Nat) (l : List Nat) (M : mB), (mRun f l M).2.1 ≤ l.length + 1 := by
  intro f
  induction f with
  | zero => intro l M; exact Nat.zero_le _
  | succ f ih =>
    intro l M
    rw [mRun]
    by_cases e : mNt M l = 0
    · rw [if_pos e]
      cases e2 : l.drop (mN l) with
      | nil => exact Nat.le_add_left _ _
      | cons c l' =>
        have e3 := congrArg List.length e2
        rw [List.length_drop, List.length_cons] at e3
        have := ih l' (mDt M l)
        show (mRun f l' (mDt M l)).2.1 + 1 ≤ _
        omega
    · rw [if_neg e]
      exact Nat.zero_le _
/-- what follows a command of a script whose form holds -/
theorem err_step {f : Nat} {l : List Nat} (h : mErr (f + 1) l = none) : mOk l = true ∧ mN l = sg l ∧ (l.drop (mN l) = [] ∨ ∃ l', l.drop (mN l) = 59 :: l' ∧ mErr f l' = none) := by
  rw [mErr] at h
  cases e : mOk l with
  | false => rw [e, if_neg (by decide)] at h; cases h
  | true =>
    rw [e, if_pos rfl] at h
    refine ⟨rfl, ?_⟩
    rcases ends_iff l with ⟨e1, e2⟩ | ⟨e1, c, l', e2, e3⟩
    · refine ⟨e1, ?_⟩
      rcases e2 with e2 | ⟨l', e2⟩
      · exact Or.inl e2
      · rw [e2] at h
        have h : (if 59 = 59 then (mErr f l').map (· + (mN l + 1)) else some (mN l)) = none := h
        rw [if_pos rfl] at h
        exact Or.inr ⟨l', e2, Option.map_eq_none_iff.mp h⟩
    · rw [e2] at h
      have h : (if c = 59 then (mErr f l').map (· + (mN l + 1)) else some (mN l)) = none := h
      rw [if_neg e3] at h
      cases h
section DM
variable {G : gG} {S : gS} {T : gT} {A : aW} {N : Nat} {M : mB} {tx : List Nat}
-- the class runs a command
theorem c_leaf (h : wSh G S A) (hR : bR S (aB A 0) M) (hW : bW N M) (hN : N + 640 ≤ 2 ^ 30) {k : Nat} (hk : k < 8) {a b c d : Int32} : wp (gb (f_X5_refusalOf G (ax A) k a b c d S) fun (r : Nat) => gd (r < 4) <| gd (0 < 4) <| if r = 0 then (gb2 (f_X5_perform G (ax A) k a b c d S) fun (_ : Int32) (S' : gS) => some (true, S')) else (some (false, S)))
    (fun y => (mNot M k a b c d ≠ 0 → y = (false, S)) ∧ (mNot M k a b c d = 0 → y.1 = true ∧ bR y.2 (aB A 0) (mDo M k a b c d).2 ∧ gFr (bFp (aB A 0)) S y.2)) := by
  refine wp_gb (c_not h hR hW hk a b c d) (wp_gd (mNot_lt M k a b c d) (wp_gd (by decide) ?_))
  by_cases q : mNot M k a b c d = 0
  · refine wp_t q (wp_gb2w (c_do h hR hW hN hk q) (fun v S' z => wp_ret ⟨fun y => absurd q y, fun _ => ⟨rfl, z.2⟩⟩))
  · exact wp_f q (wp_ret ⟨fun _ => rfl, fun y => absurd y q⟩)
theorem c_runc (h : wSh G S A) (hT : tg T (at1 A) = some tx) (hl : tx.length ≤ 60) (hc : ∀ c ∈ tx, c < 128) (hR : bR S (aB A 0) M) (hW : bW N M) (hN : N + 640 ≤ 2 ^ 30) {p : Nat} (hp : p ≤ tx.length) (ok : mOk (tx.drop p) = true) (e : mN (tx.drop p) = sg (tx.drop p)) : wp (f_X5_runCommand G (ax A) (nI p) S T)
    (fun y => (mNt M (tx.drop p) ≠ 0 → y = (false, S)) ∧ (mNt M (tx.drop p) = 0 → y.1 = true ∧ bR y.2 (aB A 0) (mDt M (tx.drop p)) ∧ gFr (bFp (aB A 0)) S y.2)) := by
  have hk := kf_lt (tx.drop p)
  unfold f_X5_runCommand
  rw [gd_i h.1.1, c_end h hT hl hc hp, gb_S, c_cmd h hT hl hc hp, gb_S, if_pos ⟨ok, e⟩]
  show wp (gb (f_X5_digitAt G (ax A) (nI p) (nI (p + sg (tx.drop p))) 0 S T) _) _
  rw [c_dig h hT hl hc hp (j := 0) (b := 0) (by decide) rfl, gb_S, c_dig h hT hl hc hp (j := 1) (b := 1) (by decide) rfl, gb_S, c_dig h hT hl hc hp (j := 2) (b := 2) (by decide) rfl, gb_S, c_dig h hT hl hc hp (j := 3) (b := 3) (by decide) rfl, gb_S, ← e]
  unfold mNt mDt
  generalize kf (tx.drop p) = k at *
  generalize dg ((tx.drop p).take (mN (tx.drop p))) = D
  refine wp_gd hk (wp_gd (by decide) ?_)
  by_cases k0 : k = 0
  · have ed : mD k D = gj D 3 := by unfold mD; rw [if_neg (by omega)]
    refine wp_t k0 ?_
    by_cases q : gj D 1 = -1
    · have ea : mA k D = gj D 0 := by unfold mA; rw [if_pos k0, if_pos q]
      rw [ea, ed]
      exact wp_t q (wp_gd (by decide) (wp_f (by omega) (c_leaf h hR hW hN hk)))
    · have ea : mA k D = 10 * gj D 0 + gj D 1 := by unfold mA; rw [if_pos k0, if_neg q]
      rw [ea, ed]
      refine wp_f q (wp_glt (fun x ex => ?_))
      rw [ex]
      exact wp_gd (by decide) (wp_f (by omega) (c_leaf h hR hW hN hk))
  · have ea : mA k D = gj D 0 := by unfold mA; rw [if_neg k0]
    refine wp_f k0 (wp_gd (by decide) ?_)
    by_cases k1 : k = 1
    · refine wp_t k1 ?_
      by_cases q : gj D 3 = -1
      · have ed : mD k D = 1 := by unfold mD; rw [if_pos k1, if_pos q]
        rw [ea, ed]
        exact wp_t q (c_leaf h hR hW hN hk)
      · have ed : mD k D = gj D 3 := by unfold mD; rw [if_pos k1, if_neg q]
        rw [ea, ed]
        exact wp_f q (c_leaf h hR hW hN hk)
    · have ed : mD k D = gj D 3 := by unfold mD; rw [if_neg k1]
      rw [ea, ed]
      exact wp_f k1 (c_leaf h hR hW hN hk)
theorem c_run_L {Q : ((String ⊕ Int32) × gS × gT) → Prop} (hT : tg T (at1 A) = some tx) (hl : tx.length ≤ 60) (hc : ∀ c ∈ tx, c < 128) {z : Int32} : ∀ (f n p d : Nat) (M : mB) (N : Nat) (S : gS), wSh G S A → bR S (aB A 0) M → bW N M → N + mK (tx.length - p) ≤ 2 ^ 30 → p ≤ tx.length → d ≤ 100 → tx.length - p < f → f < n → d ≤ p → mErr f (tx.drop p) = none →
    (∀ S', (mRun f (tx.drop p) M).2.2 = true → gFr (bFp (aB A 0)) S S' → bR S' (aB A 0) (mRun f (tx.drop p) M).1 → wp (gb (f_X5_countChange G (ax A) S') fun S_19 => some (.inr (nI (d + (mRun f (tx.drop p) M).2.1)), S_19, ts T (at1 A) [])) Q) →
    (∀ S', (mRun f (tx.drop p) M).2.2 = false → gFr (bFp (aB A 0)) S S' → wp (gb (f_X5_takeBack G (ax A) S') fun S_21 => glt (sI S_21 23 (ax A) (nI (d + (mRun f (tx.drop p) M).2.1))) fun S_22 => some (.inl "java/lang/IllegalStateException", S_22, ts T (at1 A) [])) Q) →
    wp (f_X5_runScript_L48 G (ax A) n z (nI (d + (1 + cs9 (tx.drop p)))) (nI d) (nI p) S T) Q := by
  intro f
  induction f with
  | zero => intro n p d M N S _ _ _ _ _ _ hn; omega
  | succ f ih =>
    intro n p d M N S h hR hW hN hp hd hf hn hdp he h1 h2
    obtain ⟨n, rfl⟩ : ∃ k, n = k + 1 := ⟨n - 1, by omega⟩
    have s8 := h.1.2.2.2.2.2.2.1
    have h9 : cs9 (tx.drop p) ≤ 60 := by
      have : ∀ l : List Nat, cs9 l ≤ l.length := by
        intro l
        induction l with
        | nil => exact Nat.le_refl _
        | cons c l ih =>
          unfold cs9
          split
          · exact Nat.succ_le_succ ih
          · exact Nat.le_succ_of_le ih
      have := this (tx.drop p)
      rw [List.length_drop] at this
      omega
    obtain ⟨e1, e2, e3⟩ := err_step he
    have k0 := mK_ge (tx.length - p)
    rw [f_X5_runScript_L48]
    refine wp_f (nI_ge (by omega) (by omega)) (wp_gd h.1.1 (wp_gb2w (c_runc h hT hl hc hR hW (by omega) hp e1 e2) ?_))
    rintro b S1 ⟨r1, r2⟩
    by_cases q : mNt M (tx.drop p) = 0
    · obtain ⟨r3, r4, r5⟩ := r2 q
      have r3 : b = true := r3
      have h' := h.fr r5
      subst r3
      refine wp_f (by decide) (wp_gb (c_end h' hT hl hc hp) (wp_glt (fun x4 ex4 => wp_glt (fun x3 ex3 => ?_))))
      rw [nI_1] at ex4 ex3
      subst ex4 ex3
      have hW2 : bW (N + 640) (mDt M (tx.drop p)) := bW_do hW (by omega) q
      rw [mRun, if_pos q] at h1 h2
      obtain ⟨z1, z2⟩ := cs9_sg (tx.drop p)
      rcases e3 with e3 | ⟨l', e3, e4⟩
      · rw [e3] at h1 h2
        rw [z1 (by rw [← e2]; exact e3)]
        obtain ⟨n, rfl⟩ : ∃ k, n = k + 1 := ⟨n - 1, by omega⟩
        rw [f_X5_runScript_L48]
        refine wp_t (Int32.le_refl _) (wp_gd h'.1.1 (wp_gb h'.1.2.2.2.2.2.2.1 (wp_gb hT (wp_glt (fun T1 et => wp_t (Int32.le_refl _) ?_)))))
        rw [et]
        exact h1 S1 rfl r5 r4
      · rw [e3] at h1 h2
        have e5 : tx.drop (p + sg (tx.drop p)) = 59 :: l' := by rw [← drop_more, ← e2]; exact e3
        obtain ⟨d1, d2, -⟩ := dr_le e5
        have e6 : l' = tx.drop (p + sg (tx.drop p) + 1) := d2.symm
        rw [z2 l' (by rw [← e2]; exact e3), show d + (1 + (cs9 l' + 1)) = d + 1 + (1 + cs9 l') by omega, e6]
        rw [e6] at h1 h2 e4
        have k1 := mK_step (show tx.length - (p + sg (tx.drop p) + 1) < tx.length - p by omega)
        refine ih n _ (d + 1) _ (N + 640) S1 h' r4 hW2 (by omega) (by omega) (by omega) (by omega) (by omega) (by omega) e4 (fun S' g1 g2 g3 => ?_) (fun S' g1 g2 => ?_)
        · have := h1 S' g1 (r5.trans g2) g3
          rw [show d + 1 + (mRun f (tx.drop (p + sg (tx.drop p) + 1)) (mDt M (tx.drop p))).2.1 = d + ((mRun f (tx.drop (p + sg (tx.drop p) + 1)) (mDt M (tx.drop p))).2.1 + 1) by omega]
          exact this
        · have := h2 S' g1 (r5.trans g2)
          rw [show d + 1 + (mRun f (tx.drop (p + sg (tx.drop p) + 1)) (mDt M (tx.drop p))).2.1 = d + ((mRun f (tx.drop (p + sg (tx.drop p) + 1)) (mDt M (tx.drop p))).2.1 + 1) by omega]
          exact this
    · have r3 := r1 q
      cases r3
      rw [mRun, if_neg q] at h1 h2
      refine wp_t rfl (wp_gb s8 (wp_gb hT (wp_glt (fun T1 et => wp_f (nI_ge (by omega) (by omega)) ?_))))
      rw [et]
      exact h2 S rfl gFr.rfl'
end DM
