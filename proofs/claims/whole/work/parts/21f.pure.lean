/-! changes: what is refused, what is done; the school's own part -/
def mUmb (M : mB) (a : Int32) : Bool := decide (0 ≤ a ∧ a ≤ M.1 0 - 1)
def mLev (a : Int32) : Bool := decide (0 ≤ a ∧ a ≤ 3)
def mBtw (a lo hi : Int32) : Bool := decide (lo ≤ a ∧ a ≤ hi)
def mFor (M : mB) (a : Int32) (ok : Bool) : Nat := if mUmb M a = true then (if ok = true then 0 else 2) else 1
/-- the number of the refusal of a command: 0 nothing, 1 no umbrella, 2 an argument, 3 the state -/
def mNot (M : mB) (k : Nat) (a b c d : Int32) : Nat :=
  if k = 0 then (if mBtw a 3 20 = true then (if mc M < 6 then 0 else 3) else 2) else
  if k = 1 then mFor M a (mLev b && mLev c && mBtw d 1 9) else
  if k = 2 then mFor M a (mBtw b 0 9) else
  if k = 3 then (if mBtw a 0 9 = true then 0 else 2) else
  if k = 4 then (if mBtw a 0 9 = true then 0 else 2) else
  if k = 5 then mFor M a (mLev b) else
  if k = 6 then mFor M a (mLev b) else
  if 0 < mc M then 0 else 3
def mDo (M : mB) (k : Nat) (a b c d : Int32) : Int32 × mB :=
  if k = 0 then (nI (mc M), mAdd M a) else
  if k = 1 then mTrs a.toNatClampNeg b.toNatClampNeg c.toNatClampNeg d.toNatClampNeg 0 M else
  if k = 2 then ((M.2 a.toNatClampNeg).1 1, mSet M a.toNatClampNeg (upd (M.2 a.toNatClampNeg).1 1 b, (M.2 a.toNatClampNeg).2)) else
  if k = 3 then (M.1 1, (upd M.1 1 a, M.2)) else
  if k = 4 then (M.1 2, (upd M.1 2 a, M.2)) else
  if k = 5 then (nI ((M.2 a.toNatClampNeg).2.length - (mKeep (M.2 a.toNatClampNeg).2 b.toNatClampNeg).length), mSet M a.toNatClampNeg (mForget (M.2 a.toNatClampNeg) b.toNatClampNeg)) else
  if k = 6 then (mRA M a.toNatClampNeg b.toNatClampNeg, mExam M a.toNatClampNeg b.toNatClampNeg) else
  (nI (mBest M.2 (mc M)), mTerm M)
theorem btw_nat {a : Int32} {n : Nat} (hn : n < 2 ^ 31) (h : 0 ≤ a ∧ a ≤ nI n) : ∃ j, j ≤ n ∧ a = nI j ∧ a.toNatClampNeg = j := by
  have e := nI_ofc h.1
  have hl := Int32.toNatClampNeg_lt a
  refine ⟨a.toNatClampNeg, ?_, e, rfl⟩
  have h2 := h.2
  rw [e, nI_leI hl hn] at h2
  exact h2
theorem mUmb_t {M : mB} {N : Nat} {a : Int32} (hW : bW N M) (h : mUmb M a = true) : ∃ u, u < mc M ∧ a = nI u ∧ a.toNatClampNeg = u := by
  have h6 := hW.1.2
  have h := of_decide_eq_true h
  rw [hW.1.1] at h
  have e := nI_ofc h.1
  have hl := Int32.toNatClampNeg_lt a
  refine ⟨a.toNatClampNeg, ?_, e, rfl⟩
  rcases i_cases a (show mc M < 2 ^ 31 by omega) with ⟨j, hj, ej⟩ | q
  · rw [ej, nI_clamp (by omega)]; exact hj
  · exact absurd h (b_out (by omega) q)
theorem mUmb_f {M : mB} {N : Nat} {a : Int32} (hW : bW N M) (h : mUmb M a = false) : a < 0 ∨ nI (mc M) ≤ a := by
  have h6 := hW.1.2
  have h := of_decide_eq_false h
  rcases i_cases a (show mc M < 2 ^ 31 by omega) with ⟨j, hj, ej⟩ | q
  · rw [hW.1.1, ej] at h
    exact absurd (b_in (by omega) hj) h
  · exact q
theorem mUmb_of {M : mB} {N u : Nat} (hW : bW N M) (hu : u < mc M) : mUmb M (nI u) = true := by
  have h6 := hW.1.2
  refine decide_eq_true ?_
  rw [hW.1.1]
  exact b_in (by omega) hu
theorem mLev_t {a : Int32} (h : mLev a = true) : ∃ j, j < 4 ∧ a = nI j ∧ a.toNatClampNeg = j := by
  obtain ⟨j, h1, h2, h3⟩ := btw_nat (n := 3) (by decide) (of_decide_eq_true h)
  exact ⟨j, by omega, h2, h3⟩
theorem mBtw_t {a : Int32} {n : Nat} (hn : n < 2 ^ 31) {hi : Int32} (eh : hi = nI n) (h : mBtw a 0 hi = true) : ∃ j, j ≤ n ∧ a = nI j ∧ a.toNatClampNeg = j := by
  subst eh
  exact btw_nat hn (of_decide_eq_true h)
theorem mBtw_0 {a lo hi : Int32} (hl : 0 ≤ lo) (h : mBtw a lo hi = true) : mBtw a 0 hi = true := by
  have h := of_decide_eq_true h
  exact decide_eq_true ⟨Int32.le_trans hl h.1, h.2⟩
theorem mFor_0 {M : mB} {a : Int32} {ok : Bool} (h : mFor M a ok = 0) : mUmb M a = true ∧ ok = true := by
  unfold mFor at h
  cases h1 : mUmb M a with
  | false => rw [h1, if_neg (by decide)] at h; exact absurd h (by decide)
  | true =>
    cases ok with
    | true => exact ⟨rfl, rfl⟩
    | false => rw [h1] at h; exact absurd h (by decide)
-- what a change leaves well-formed
theorem uW_set {N : Nat} {U V : mU} (hU : uW N U) (h0 : V.1 0 = U.1 0) (h1 : ∃ per : Nat, V.1 1 = nI per ∧ per ≤ 9) (h3 : V.1 3 = nI V.2.length) (hl : V.2.length ≤ U.2.length) (ht : ∀ t ∈ V.2, t ∈ U.2) (h7 : ∃ e : Nat, e < 16 ∧ V.1 7 = nI e) (h6 : ∃ s : Nat, s ≤ N + 1 ∧ V.1 6 = nI s) (h4 : V.1 4 = U.1 4) : uW (N + 1) V := by
  obtain ⟨⟨cap, c1, c2, c3, c4⟩, -, -, a4, -, -, b1, b2⟩ := hU
  refine ⟨⟨cap, h0.trans c1, c2, c3, by omega⟩, h1, h3, fun t q => a4 t (ht t q), h7, h6, ?_, ?_⟩
  · rw [h4]; omega
  · rw [h4]; omega
theorem bW_set {N N' u : Nat} {M : mB} {V : mU} (hW : bW N M) (hN : N ≤ N') (hu : u < mc M) (hV : uW N' V) (h2 : V.1 2 = (M.2 u).1 2) : bW N' (mSet M u V) := by
  obtain ⟨h1, hp, hq, hx, hy, hz⟩ := hW
  refine ⟨h1, hp, hq, fun i hi => ?_, fun i hi => ?_, ?_⟩
  · show uW N' (if i = u then V else M.2 i)
    by_cases c : i = u
    · rw [if_pos c]; exact hV
    · rw [if_neg c]; exact (hx i hi).mono hN
  · have hi : mc M ≤ i := hi
    show (if i = u then V else M.2 i) = mU0
    rw [if_neg (by omega)]
    exact hy i hi
  · show M.1 7 = dS (fun i => (if i = u then V else M.2 i : mU).1 2) (mc M) (mc M)
    rw [hz]
    refine dS_cong _ (Nat.le_refl _) (fun k _ => ?_)
    by_cases c : k = u
    · subst c; rw [if_pos rfl, h2]
    · rw [if_neg c]
theorem bW_trs {u rn wd : Nat} (hr : rn < 4) (hw : wd < 4) : ∀ (d N : Nat) (s : Int32) (M : mB), bW N M → N + 64 * d ≤ 2 ^ 30 → u < mc M → bW (N + 64 * d) (mTrs u rn wd d s M).2 := by
  intro d
  induction d with
  | zero => intro N s M hW _ _; exact hW
  | succ d ih =>
    intro N s M hW hN hu
    obtain ⟨h1, h2⟩ := bW_try hW (by omega) hu hr hw
    have := ih (N + 64) (s + mG M u rn wd) (mTry M u rn wd) h1 (by omega) (by rw [h2]; exact hu)
    exact this.mono (by omega)
theorem bW_do {N k : Nat} {M : mB} {a b c d : Int32} (hW : bW N M) (hN : N + 640 ≤ 2 ^ 30) (h : mNot M k a b c d = 0) : bW (N + 640) (mDo M k a b c d).2 := by
  have h6 := hW.1.2
  unfold mNot at h
  unfold mDo
  by_cases k0 : k = 0
  · rw [if_pos k0] at h ⊢
    have hb : mBtw a 3 20 = true := by
      cases q : mBtw a 3 20 with
      | true => rfl
      | false => rw [q, if_neg (by decide)] at h; exact absurd h (by decide)
    rw [hb, if_pos rfl] at h
    have h5 : mc M < 6 := by
      by_cases q : mc M < 6
      · exact q
      · rw [if_neg q] at h; exact absurd h (by decide)
    obtain ⟨cap, c1, c2, c3⟩ := mBtw_t (n := 20) (by decide) rfl (mBtw_0 (by decide) hb)
    have c0 : 3 ≤ cap := by
      have := (of_decide_eq_true hb).1
      rw [c2, show (3 : Int32) = nI 3 from rfl, nI_leI (by decide) (by omega)] at this
      exact this
    obtain ⟨h1, hp, hq, hx, hy, hz⟩ := hW
    have em : (mAdd M a).1 0 = nI (mc M + 1) := by
      show M.1 0 + 1 = _
      rw [h1.1, nI_1]
    have hm : mc (mAdd M a) = mc M + 1 := by
      show ((mAdd M a).1 0).toNatClampNeg = _
      rw [em, nI_clamp (by omega)]
    unfold bW
    rw [hm]
    refine ⟨⟨em, by omega⟩, ?_, ?_, fun i hi => ?_, fun i hi => ?_, ?_⟩
    · obtain ⟨p, p1, p2⟩ := hp
      exact ⟨p, p1, p2⟩
    · obtain ⟨p, p1, p2⟩ := hq
      exact ⟨p, p1, p2⟩
    · show uW (N + 640) (if i = mc M then (upd (fun _ => 0) 0 a, []) else M.2 i)
      by_cases q : i = mc M
      · rw [if_pos q]
        exact ⟨⟨cap, c2, c0, c1, Nat.zero_le _⟩, ⟨0, rfl, by decide⟩, rfl, fun t ht => (by cases ht), ⟨0, by decide, rfl⟩, ⟨0, by omega, rfl⟩, by show -((N + 640 : Nat) : Int) ≤ (upd (fun _ => 0) 0 a 4).toInt; rw [show (upd (fun _ => 0) 0 a 4).toInt = 0 from rfl]; omega, by show (upd (fun _ => 0) 0 a 4).toInt ≤ _; rw [show (upd (fun _ => 0) 0 a 4).toInt = 0 from rfl]; omega⟩
      · rw [if_neg q]; exact (hx i (by omega)).mono (by omega)
    · show (if i = mc M then _ else M.2 i) = mU0
      rw [if_neg (by omega)]
      exact hy i (by omega)
    · rw [show (mAdd M a).1 7 = M.1 7 from rfl, hz]
      have e1 := dS_succ (fun i => ((mAdd M a).2 i).1 2) (mc M) (mc M) (Nat.le_refl _)
      rw [e1]
      have e2 : ((mAdd M a).2 (mc M)).1 2 = 0 := by
        show ((if mc M = mc M then (upd (fun _ => 0) 0 a, []) else M.2 (mc M) : mU)).1 2 = 0
        rw [if_pos rfl]
        rfl
      rw [e2, Int32.add_zero]
      refine dS_cong _ (Nat.le_refl _) (fun k hk => ?_)
      show (M.2 k).1 2 = ((if k = mc M then _ else M.2 k : mU)).1 2
      rw [if_neg (by omega)]
  rw [if_neg k0] at h ⊢
  by_cases k1 : k = 1
  · rw [if_pos k1] at h ⊢
    obtain ⟨q1, q2⟩ := mFor_0 h
    obtain ⟨u, u1, u2, u3⟩ := mUmb_t hW q1
    have q3 := (Bool.and_eq_true _ _).mp q2
    have q4 := (Bool.and_eq_true _ _).mp q3.1
    obtain ⟨rn, r1, r2, r3⟩ := mLev_t q4.1
    obtain ⟨wd, w1, w2, w3⟩ := mLev_t q4.2
    obtain ⟨t, t1, t2, t3⟩ := mBtw_t (n := 9) (by decide) rfl (mBtw_0 (by decide) q3.2)
    rw [u3, r3, w3, t3]
    exact (bW_trs r1 w1 t N 0 M hW (by omega) u1).mono (by omega)
  rw [if_neg k1] at h ⊢
  by_cases k2 : k = 2
  · rw [if_pos k2] at h ⊢
    obtain ⟨q1, q2⟩ := mFor_0 h
    obtain ⟨u, u1, u2, u3⟩ := mUmb_t hW q1
    obtain ⟨p, p1, p2, p3⟩ := mBtw_t (n := 9) (by decide) rfl q2
    rw [u3]
    have hU := hW.2.2.2.1 u u1
    have hU' := hU
    obtain ⟨-, -, a3, -, a7, ⟨s, s1, s2⟩, -, -⟩ := hU'
    refine (bW_set hW (show N ≤ N + 1 by omega) u1 (uW_set (V := (upd (M.2 u).1 1 b, (M.2 u).2)) hU rfl ⟨p, p2, p1⟩ (a3) (Nat.le_refl _) (fun t ht => ht) (by obtain ⟨e, e1, e2⟩ := a7; exact ⟨e, e1, e2⟩) ⟨s, by omega, s2⟩ rfl) rfl).mono (by omega)
  rw [if_neg k2] at h ⊢
  have pen : ∀ j, j = 1 ∨ j = 2 → mBtw a 0 9 = true → bW (N + 640) (upd M.1 j a, M.2) := by
    intro j hj hb
    obtain ⟨p, p1, p2, p3⟩ := mBtw_t (n := 9) (by decide) rfl hb
    obtain ⟨h1, ⟨x, x1, x2⟩, ⟨y, y1, y2⟩, hx, hy, hz⟩ := hW
    have hx' : ∀ i, i < mc M → uW (N + 640) (M.2 i) := fun i hi => (hx i hi).mono (by omega)
    rcases hj with rfl | rfl
    · exact ⟨h1, ⟨p, p1, p2⟩, ⟨y, y1, y2⟩, hx', hy, hz⟩
    · exact ⟨h1, ⟨x, x1, x2⟩, ⟨p, p1, p2⟩, hx', hy, hz⟩
  have pb : (if mBtw a 0 9 = true then 0 else 2) = 0 → mBtw a 0 9 = true := fun q => by
    cases z : mBtw a 0 9 with
    | true => rfl
    | false => rw [z] at q; exact absurd q (by decide)
  by_cases k3 : k = 3
  · rw [if_pos k3] at h ⊢
    exact pen 1 (Or.inl rfl) (pb h)
  rw [if_neg k3] at h ⊢
  by_cases k4 : k = 4
  · rw [if_pos k4] at h ⊢
    exact pen 2 (Or.inr rfl) (pb h)
  rw [if_neg k4] at h ⊢
  by_cases k5 : k = 5
  · rw [if_pos k5] at h ⊢
    obtain ⟨q1, q2⟩ := mFor_0 h
    obtain ⟨u, u1, u2, u3⟩ := mUmb_t hW q1
    rw [u3]
    have hU := hW.2.2.2.1 u u1
    have hU' := hU
    obtain ⟨-, ⟨per, p1, p2⟩, a3, -, ⟨e, e1, e2⟩, ⟨s, s1, s2⟩, -, -⟩ := hU'
    exact (bW_set hW (show N ≤ N + 1 by omega) u1 (uW_set (V := (mForget (M.2 u) b.toNatClampNeg)) hU rfl ⟨per, p1, p2⟩ rfl (mKeep_le _ _) (fun t ht => (List.mem_filter.mp ht).1) ⟨e, e1, e2⟩ ⟨s, by omega, s2⟩ rfl) rfl).mono (by omega)
  rw [if_neg k5] at h ⊢
  by_cases k6 : k = 6
  · rw [if_pos k6] at h ⊢
    obtain ⟨q1, q2⟩ := mFor_0 h
    obtain ⟨u, u1, u2, u3⟩ := mUmb_t hW q1
    obtain ⟨wd, w1, w2, w3⟩ := mLev_t q2
    rw [u3, w3]
    have hU := hW.2.2.2.1 u u1
    have hU' := hU
    obtain ⟨-, ⟨per, p1, p2⟩, a3, -, ⟨e, e1, e2⟩, ⟨s, s1, s2⟩, -, -⟩ := hU'
    have hx := ex_in e e1 wd w1 (decide (3 ≤ mRA M u wd))
    exact (bW_set hW (show N ≤ N + 1 by omega) u1 (uW_set (V := (upd (M.2 u).1 7 (mExS ((M.2 u).1 7) wd (decide (3 ≤ mRA M u wd))), (M.2 u).2)) hU rfl ⟨per, p1, p2⟩ (a3) (Nat.le_refl _) (fun t ht => ht) ⟨_, hx.1, (by rw [e2]; exact hx.2)⟩ ⟨s, by omega, s2⟩ rfl) rfl).mono (by omega)
  rw [if_neg k6] at h ⊢
  have hc : 0 < mc M := by
    by_cases q : 0 < mc M
    · exact q
    · rw [if_neg q] at h; exact absurd h (by decide)
  have hb := mBest_lt M.2 (mc M) hc
  have hU := hW.2.2.2.1 _ hb
  have hU' := hU
  obtain ⟨-, ⟨per, p1, p2⟩, a3, -, ⟨e, e1, e2⟩, ⟨s, s1, s2⟩, -, -⟩ := hU'
  have w1 : bW (N + 1) (mStar M) := bW_set hW (show N ≤ N + 1 by omega) hb (uW_set (V := (upd (M.2 (mBest M.2 (mc M))).1 6 ((M.2 (mBest M.2 (mc M))).1 6 + 1), (M.2 (mBest M.2 (mc M))).2)) hU rfl ⟨per, p1, p2⟩ (a3) (Nat.le_refl _) (fun t ht => ht) ⟨e, e1, e2⟩ ⟨s + 1, by omega, show (M.2 (mBest M.2 (mc M))).1 6 + 1 = nI (s + 1) by rw [s2, nI_1]⟩ rfl) rfl
  refine bW.mono (N := N + 2) ?_ (by omega)
  obtain ⟨h1, ⟨x, x1, x2⟩, ⟨y, y1, y2⟩, hx, hy, hz⟩ := w1
  have hm : mc (mTerm M) = mc (mStar M) := by
    rfl
  unfold bW
  show (_ ∧ _) ∧ _
  rw [hm]
  refine ⟨⟨h1.1, h1.2⟩, ⟨x, x1, x2⟩, ⟨y, y1, y2⟩, fun i hi => ?_, fun i hi => ?_, (hz.trans ?_)⟩
  · show uW (N + 2) (if 0 ≤ i ∧ i < mc (mStar M) then (upd ((mStar M).2 i).1 5 0, ((mStar M).2 i).2) else (mStar M).2 i)
    rw [if_pos ⟨Nat.zero_le _, hi⟩]
    have hV := hx i hi
    have hV' := hV
    obtain ⟨-, ⟨per, p1, p2⟩, a3, -, ⟨e, e1, e2⟩, ⟨s, s1, s2⟩, -, -⟩ := hV'
    exact uW_set (V := (upd ((mStar M).2 i).1 5 0, ((mStar M).2 i).2)) hV rfl ⟨per, p1, p2⟩ (a3) (Nat.le_refl _) (fun t ht => ht) ⟨e, e1, e2⟩ ⟨s, by omega, s2⟩ rfl
  · show (if 0 ≤ i ∧ i < mc (mStar M) then _ else (mStar M).2 i) = mU0
    rw [if_neg (by omega)]
    exact hy i hi
  · refine dS_cong _ (Nat.le_refl _) (fun k hk => ?_)
    show _ = ((if 0 ≤ k ∧ k < mc (mStar M) then (upd ((mStar M).2 k).1 5 0, ((mStar M).2 k).2) else (mStar M).2 k : mU)).1 2
    rw [if_pos ⟨Nat.zero_le _, hk⟩]
    rfl
